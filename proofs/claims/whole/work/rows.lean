section
-- ===== PART A: goes FIRST, ahead of the names: the tables' words, and 'selects' of the private methods out of them =====
/-- a private method of a class that the tables say can be made, by its rows of tables_1 -/
def lw_okq (q : MethodName × Nat) : Prop := (q.1.cls ≠ "java/lang/invoke/MethodHandle" ∧ q.1.cls ≠ "java/lang/invoke/VarHandle") ∧ Cond.instantiable q.1.cls q.2 ∈ tables_1 ∧ Cond.privateMethod q.1 ∈ tables_1 ∧ Cond.instanceMethod q.1 ∈ tables_1
theorem lw_p0 : lw_okq (⟨"KernLessons", "findPairsOtherwise", "()V"⟩, 9) := ⟨⟨by decide +kernel, by decide +kernel⟩, List.mem_of_getElem? (i := 17) (by decide +kernel), List.mem_of_getElem? (i := 223) (by decide +kernel), List.mem_of_getElem? (i := 224) (by decide +kernel)⟩
theorem lw_p1 : lw_okq (⟨"KernLessons", "pairsOtherwiseWithout", "(I)I"⟩, 9) := ⟨⟨by decide +kernel, by decide +kernel⟩, List.mem_of_getElem? (i := 17) (by decide +kernel), List.mem_of_getElem? (i := 227) (by decide +kernel), List.mem_of_getElem? (i := 228) (by decide +kernel)⟩
theorem lw_p2 : lw_okq (⟨"KernLessons$Table", "pairsThatAgree", "(LKernLessons$State;II)I"⟩, 8) := ⟨⟨by decide +kernel, by decide +kernel⟩, List.mem_of_getElem? (i := 31) (by decide +kernel), List.mem_of_getElem? (i := 259) (by decide +kernel), List.mem_of_getElem? (i := 260) (by decide +kernel)⟩
theorem lw_p3 : lw_okq (⟨"KernLessons$Table", "moveShapes", "(LKernLessons$State;II)V"⟩, 8) := ⟨⟨by decide +kernel, by decide +kernel⟩, List.mem_of_getElem? (i := 31) (by decide +kernel), List.mem_of_getElem? (i := 263) (by decide +kernel), List.mem_of_getElem? (i := 264) (by decide +kernel)⟩
theorem lw_p4 : lw_okq (⟨"KernLessons", "lessonWithMostOtherwise", "()I"⟩, 9) := ⟨⟨by decide +kernel, by decide +kernel⟩, List.mem_of_getElem? (i := 17) (by decide +kernel), List.mem_of_getElem? (i := 268) (by decide +kernel), List.mem_of_getElem? (i := 269) (by decide +kernel)⟩
theorem lw_p5 : lw_okq (⟨"KernLessons", "hashCountsAndSettings", "(J)J"⟩, 9) := ⟨⟨by decide +kernel, by decide +kernel⟩, List.mem_of_getElem? (i := 17) (by decide +kernel), List.mem_of_getElem? (i := 282) (by decide +kernel), List.mem_of_getElem? (i := 283) (by decide +kernel)⟩
theorem lw_p6 : lw_okq (⟨"java/lang/Throwable", "fillInStackTrace", "(I)Ljava/lang/Throwable;"⟩, 6) := ⟨⟨by decide +kernel, by decide +kernel⟩, List.mem_of_getElem? (i := 331) (by decide +kernel), List.mem_of_getElem? (i := 329) (by decide +kernel), List.mem_of_getElem? (i := 330) (by decide +kernel)⟩
theorem lw_p7 : lw_okq (⟨"KernLessons", "hashLetters", "(J)J"⟩, 9) := ⟨⟨by decide +kernel, by decide +kernel⟩, List.mem_of_getElem? (i := 17) (by decide +kernel), List.mem_of_getElem? (i := 373) (by decide +kernel), List.mem_of_getElem? (i := 374) (by decide +kernel)⟩
theorem lw_p8 : lw_okq (⟨"KernLessons", "hashPairs", "(J)J"⟩, 9) := ⟨⟨by decide +kernel, by decide +kernel⟩, List.mem_of_getElem? (i := 17) (by decide +kernel), List.mem_of_getElem? (i := 407) (by decide +kernel), List.mem_of_getElem? (i := 408) (by decide +kernel)⟩
theorem lw_p9 : lw_okq (⟨"KernLessons", "hashShapes", "(J)J"⟩, 9) := ⟨⟨by decide +kernel, by decide +kernel⟩, List.mem_of_getElem? (i := 17) (by decide +kernel), List.mem_of_getElem? (i := 415) (by decide +kernel), List.mem_of_getElem? (i := 416) (by decide +kernel)⟩
theorem lw_p10 : lw_okq (⟨"KernLessons", "hashLessons", "(J)J"⟩, 9) := ⟨⟨by decide +kernel, by decide +kernel⟩, List.mem_of_getElem? (i := 17) (by decide +kernel), List.mem_of_getElem? (i := 432) (by decide +kernel), List.mem_of_getElem? (i := 433) (by decide +kernel)⟩
theorem lw_p11 : lw_okq (⟨"KernLessons$Measure", "widthAt", "(LKernLessons$State;LKernLessons$Buffer;I)I"⟩, 5) := ⟨⟨by decide +kernel, by decide +kernel⟩, List.mem_of_getElem? (i := 152) (by decide +kernel), List.mem_of_getElem? (i := 455) (by decide +kernel), List.mem_of_getElem? (i := 456) (by decide +kernel)⟩
theorem lw_p12 : lw_okq (⟨"KernLessons", "saveState", "()V"⟩, 9) := ⟨⟨by decide +kernel, by decide +kernel⟩, List.mem_of_getElem? (i := 17) (by decide +kernel), List.mem_of_getElem? (i := 511) (by decide +kernel), List.mem_of_getElem? (i := 512) (by decide +kernel)⟩
theorem lw_p13 : lw_okq (⟨"KernLessons", "learnCircle", "(II)I"⟩, 9) := ⟨⟨by decide +kernel, by decide +kernel⟩, List.mem_of_getElem? (i := 17) (by decide +kernel), List.mem_of_getElem? (i := 565) (by decide +kernel), List.mem_of_getElem? (i := 566) (by decide +kernel)⟩
theorem lw_p14 : lw_okq (⟨"KernLessonsModel", "put", "(III)V"⟩, 17) := ⟨⟨by decide +kernel, by decide +kernel⟩, List.mem_of_getElem? (i := 689) (by decide +kernel), List.mem_of_getElem? (i := 695) (by decide +kernel), List.mem_of_getElem? (i := 696) (by decide +kernel)⟩
theorem lw_p15 : lw_okq (⟨"KernLessonsModel", "holds", "(I)Z"⟩, 17) := ⟨⟨by decide +kernel, by decide +kernel⟩, List.mem_of_getElem? (i := 689) (by decide +kernel), List.mem_of_getElem? (i := 765) (by decide +kernel), List.mem_of_getElem? (i := 766) (by decide +kernel)⟩
def lw_privs_1 : List (MethodName × Nat) := [(⟨"KernLessons", "findPairsOtherwise", "()V"⟩, 9), (⟨"KernLessons", "pairsOtherwiseWithout", "(I)I"⟩, 9), (⟨"KernLessons$Table", "pairsThatAgree", "(LKernLessons$State;II)I"⟩, 8), (⟨"KernLessons$Table", "moveShapes", "(LKernLessons$State;II)V"⟩, 8), (⟨"KernLessons", "lessonWithMostOtherwise", "()I"⟩, 9), (⟨"KernLessons", "hashCountsAndSettings", "(J)J"⟩, 9), (⟨"java/lang/Throwable", "fillInStackTrace", "(I)Ljava/lang/Throwable;"⟩, 6), (⟨"KernLessons", "hashLetters", "(J)J"⟩, 9), (⟨"KernLessons", "hashPairs", "(J)J"⟩, 9), (⟨"KernLessons", "hashShapes", "(J)J"⟩, 9), (⟨"KernLessons", "hashLessons", "(J)J"⟩, 9), (⟨"KernLessons$Measure", "widthAt", "(LKernLessons$State;LKernLessons$Buffer;I)I"⟩, 5), (⟨"KernLessons", "saveState", "()V"⟩, 9), (⟨"KernLessons", "learnCircle", "(II)I"⟩, 9), (⟨"KernLessonsModel", "put", "(III)V"⟩, 17), (⟨"KernLessonsModel", "holds", "(I)Z"⟩, 17)]
theorem lw_r1 : ∀ q ∈ lw_privs_1, lw_okq q := List.forall_mem_cons.mpr ⟨lw_p0, List.forall_mem_cons.mpr ⟨lw_p1, List.forall_mem_cons.mpr ⟨lw_p2, List.forall_mem_cons.mpr ⟨lw_p3, List.forall_mem_cons.mpr ⟨lw_p4, List.forall_mem_cons.mpr ⟨lw_p5, List.forall_mem_cons.mpr ⟨lw_p6, List.forall_mem_cons.mpr ⟨lw_p7, List.forall_mem_cons.mpr ⟨lw_p8, List.forall_mem_cons.mpr ⟨lw_p9, List.forall_mem_cons.mpr ⟨lw_p10, List.forall_mem_cons.mpr ⟨lw_p11, List.forall_mem_cons.mpr ⟨lw_p12, List.forall_mem_cons.mpr ⟨lw_p13, List.forall_mem_cons.mpr ⟨lw_p14, List.forall_mem_cons.mpr ⟨lw_p15, fun _ h => absurd h List.not_mem_nil⟩⟩⟩⟩⟩⟩⟩⟩⟩⟩⟩⟩⟩⟩⟩⟩
theorem lw_p16 : lw_okq (⟨"KernLessonsModel", "save", "()V"⟩, 17) := ⟨⟨by decide +kernel, by decide +kernel⟩, List.mem_of_getElem? (i := 689) (by decide +kernel), List.mem_of_getElem? (i := 769) (by decide +kernel), List.mem_of_getElem? (i := 770) (by decide +kernel)⟩
theorem lw_p17 : lw_okq (⟨"KernLessonsModel", "of", "(II)I"⟩, 17) := ⟨⟨by decide +kernel, by decide +kernel⟩, List.mem_of_getElem? (i := 689) (by decide +kernel), List.mem_of_getElem? (i := 776) (by decide +kernel), List.mem_of_getElem? (i := 777) (by decide +kernel)⟩
theorem lw_p18 : lw_okq (⟨"KernLessonsModel", "circles", "(II)I"⟩, 17) := ⟨⟨by decide +kernel, by decide +kernel⟩, List.mem_of_getElem? (i := 689) (by decide +kernel), List.mem_of_getElem? (i := 805) (by decide +kernel), List.mem_of_getElem? (i := 806) (by decide +kernel)⟩
theorem lw_p19 : lw_okq (⟨"KernLessonsModel", "isRefused", "(II)Z"⟩, 17) := ⟨⟨by decide +kernel, by decide +kernel⟩, List.mem_of_getElem? (i := 689) (by decide +kernel), List.mem_of_getElem? (i := 809) (by decide +kernel), List.mem_of_getElem? (i := 810) (by decide +kernel)⟩
theorem lw_p20 : lw_okq (⟨"KernLessonsModel", "learnAll", "()V"⟩, 17) := ⟨⟨by decide +kernel, by decide +kernel⟩, List.mem_of_getElem? (i := 689) (by decide +kernel), List.mem_of_getElem? (i := 813) (by decide +kernel), List.mem_of_getElem? (i := 814) (by decide +kernel)⟩
theorem lw_p21 : lw_okq (⟨"KernLessonsModel", "learn", "(I)V"⟩, 17) := ⟨⟨by decide +kernel, by decide +kernel⟩, List.mem_of_getElem? (i := 689) (by decide +kernel), List.mem_of_getElem? (i := 817) (by decide +kernel), List.mem_of_getElem? (i := 818) (by decide +kernel)⟩
theorem lw_p22 : lw_okq (⟨"KernLessonsModel", "ofLesson", "(II)I"⟩, 17) := ⟨⟨by decide +kernel, by decide +kernel⟩, List.mem_of_getElem? (i := 689) (by decide +kernel), List.mem_of_getElem? (i := 821) (by decide +kernel), List.mem_of_getElem? (i := 822) (by decide +kernel)⟩
theorem lw_p23 : lw_okq (⟨"KernLessonsModel", "isAtEnd", "(II)Z"⟩, 17) := ⟨⟨by decide +kernel, by decide +kernel⟩, List.mem_of_getElem? (i := 689) (by decide +kernel), List.mem_of_getElem? (i := 825) (by decide +kernel), List.mem_of_getElem? (i := 826) (by decide +kernel)⟩
theorem lw_p24 : lw_okq (⟨"KernLessonsModel", "kerningOf", "(I)I"⟩, 17) := ⟨⟨by decide +kernel, by decide +kernel⟩, List.mem_of_getElem? (i := 689) (by decide +kernel), List.mem_of_getElem? (i := 829) (by decide +kernel), List.mem_of_getElem? (i := 830) (by decide +kernel)⟩
theorem lw_p25 : lw_okq (⟨"KernLessonsModel", "meeting", "(I)I"⟩, 17) := ⟨⟨by decide +kernel, by decide +kernel⟩, List.mem_of_getElem? (i := 689) (by decide +kernel), List.mem_of_getElem? (i := 833) (by decide +kernel), List.mem_of_getElem? (i := 834) (by decide +kernel)⟩
theorem lw_p26 : lw_okq (⟨"KernLessonsModel", "learnShapes", "(II)V"⟩, 17) := ⟨⟨by decide +kernel, by decide +kernel⟩, List.mem_of_getElem? (i := 689) (by decide +kernel), List.mem_of_getElem? (i := 840) (by decide +kernel), List.mem_of_getElem? (i := 841) (by decide +kernel)⟩
theorem lw_p27 : lw_okq (⟨"KernLessonsModel", "add", "(II)V"⟩, 17) := ⟨⟨by decide +kernel, by decide +kernel⟩, List.mem_of_getElem? (i := 689) (by decide +kernel), List.mem_of_getElem? (i := 844) (by decide +kernel), List.mem_of_getElem? (i := 845) (by decide +kernel)⟩
theorem lw_p28 : lw_okq (⟨"KernLessonsModel", "isLesson", "(I)Z"⟩, 17) := ⟨⟨by decide +kernel, by decide +kernel⟩, List.mem_of_getElem? (i := 689) (by decide +kernel), List.mem_of_getElem? (i := 852) (by decide +kernel), List.mem_of_getElem? (i := 853) (by decide +kernel)⟩
theorem lw_p29 : lw_okq (⟨"KernLessonsModel", "drops", "(I)I"⟩, 17) := ⟨⟨by decide +kernel, by decide +kernel⟩, List.mem_of_getElem? (i := 689) (by decide +kernel), List.mem_of_getElem? (i := 856) (by decide +kernel), List.mem_of_getElem? (i := 857) (by decide +kernel)⟩
theorem lw_p30 : lw_okq (⟨"KernLessonsModel", "noteKernings", "()V"⟩, 17) := ⟨⟨by decide +kernel, by decide +kernel⟩, List.mem_of_getElem? (i := 689) (by decide +kernel), List.mem_of_getElem? (i := 860) (by decide +kernel), List.mem_of_getElem? (i := 861) (by decide +kernel)⟩
theorem lw_p31 : lw_okq (⟨"KernLessonsModel", "otherKernings", "()I"⟩, 17) := ⟨⟨by decide +kernel, by decide +kernel⟩, List.mem_of_getElem? (i := 689) (by decide +kernel), List.mem_of_getElem? (i := 864) (by decide +kernel), List.mem_of_getElem? (i := 865) (by decide +kernel)⟩
def lw_privs_2 : List (MethodName × Nat) := [(⟨"KernLessonsModel", "save", "()V"⟩, 17), (⟨"KernLessonsModel", "of", "(II)I"⟩, 17), (⟨"KernLessonsModel", "circles", "(II)I"⟩, 17), (⟨"KernLessonsModel", "isRefused", "(II)Z"⟩, 17), (⟨"KernLessonsModel", "learnAll", "()V"⟩, 17), (⟨"KernLessonsModel", "learn", "(I)V"⟩, 17), (⟨"KernLessonsModel", "ofLesson", "(II)I"⟩, 17), (⟨"KernLessonsModel", "isAtEnd", "(II)Z"⟩, 17), (⟨"KernLessonsModel", "kerningOf", "(I)I"⟩, 17), (⟨"KernLessonsModel", "meeting", "(I)I"⟩, 17), (⟨"KernLessonsModel", "learnShapes", "(II)V"⟩, 17), (⟨"KernLessonsModel", "add", "(II)V"⟩, 17), (⟨"KernLessonsModel", "isLesson", "(I)Z"⟩, 17), (⟨"KernLessonsModel", "drops", "(I)I"⟩, 17), (⟨"KernLessonsModel", "noteKernings", "()V"⟩, 17), (⟨"KernLessonsModel", "otherKernings", "()I"⟩, 17)]
theorem lw_r2 : ∀ q ∈ lw_privs_2, lw_okq q := List.forall_mem_cons.mpr ⟨lw_p16, List.forall_mem_cons.mpr ⟨lw_p17, List.forall_mem_cons.mpr ⟨lw_p18, List.forall_mem_cons.mpr ⟨lw_p19, List.forall_mem_cons.mpr ⟨lw_p20, List.forall_mem_cons.mpr ⟨lw_p21, List.forall_mem_cons.mpr ⟨lw_p22, List.forall_mem_cons.mpr ⟨lw_p23, List.forall_mem_cons.mpr ⟨lw_p24, List.forall_mem_cons.mpr ⟨lw_p25, List.forall_mem_cons.mpr ⟨lw_p26, List.forall_mem_cons.mpr ⟨lw_p27, List.forall_mem_cons.mpr ⟨lw_p28, List.forall_mem_cons.mpr ⟨lw_p29, List.forall_mem_cons.mpr ⟨lw_p30, List.forall_mem_cons.mpr ⟨lw_p31, fun _ h => absurd h List.not_mem_nil⟩⟩⟩⟩⟩⟩⟩⟩⟩⟩⟩⟩⟩⟩⟩⟩
theorem lw_p32 : lw_okq (⟨"KernLessonsModel", "errorPlace", "()I"⟩, 17) := ⟨⟨by decide +kernel, by decide +kernel⟩, List.mem_of_getElem? (i := 689) (by decide +kernel), List.mem_of_getElem? (i := 880) (by decide +kernel), List.mem_of_getElem? (i := 881) (by decide +kernel)⟩
theorem lw_p33 : lw_okq (⟨"KernLessonsModel", "isWritten", "(I)Z"⟩, 17) := ⟨⟨by decide +kernel, by decide +kernel⟩, List.mem_of_getElem? (i := 689) (by decide +kernel), List.mem_of_getElem? (i := 884) (by decide +kernel), List.mem_of_getElem? (i := 885) (by decide +kernel)⟩
theorem lw_p34 : lw_okq (⟨"KernLessonsModel", "isText", "()Z"⟩, 17) := ⟨⟨by decide +kernel, by decide +kernel⟩, List.mem_of_getElem? (i := 689) (by decide +kernel), List.mem_of_getElem? (i := 892) (by decide +kernel), List.mem_of_getElem? (i := 893) (by decide +kernel)⟩
theorem lw_p35 : lw_okq (⟨"KernLessonsModel", "pairAt", "(I)I"⟩, 17) := ⟨⟨by decide +kernel, by decide +kernel⟩, List.mem_of_getElem? (i := 689) (by decide +kernel), List.mem_of_getElem? (i := 896) (by decide +kernel), List.mem_of_getElem? (i := 897) (by decide +kernel)⟩
theorem lw_p36 : lw_okq (⟨"KernLessonsModel", "letterTold", "(II)I"⟩, 17) := ⟨⟨by decide +kernel, by decide +kernel⟩, List.mem_of_getElem? (i := 689) (by decide +kernel), List.mem_of_getElem? (i := 919) (by decide +kernel), List.mem_of_getElem? (i := 920) (by decide +kernel)⟩
theorem lw_p37 : lw_okq (⟨"KernLessonsModel", "lessonsWith", "(I)I"⟩, 17) := ⟨⟨by decide +kernel, by decide +kernel⟩, List.mem_of_getElem? (i := 689) (by decide +kernel), List.mem_of_getElem? (i := 923) (by decide +kernel), List.mem_of_getElem? (i := 924) (by decide +kernel)⟩
theorem lw_p38 : lw_okq (⟨"KernLessonsModel", "pairTold", "(II)I"⟩, 17) := ⟨⟨by decide +kernel, by decide +kernel⟩, List.mem_of_getElem? (i := 689) (by decide +kernel), List.mem_of_getElem? (i := 931) (by decide +kernel), List.mem_of_getElem? (i := 932) (by decide +kernel)⟩
theorem lw_p39 : lw_okq (⟨"KernLessonsModel", "shapesTold", "(II)I"⟩, 17) := ⟨⟨by decide +kernel, by decide +kernel⟩, List.mem_of_getElem? (i := 689) (by decide +kernel), List.mem_of_getElem? (i := 939) (by decide +kernel), List.mem_of_getElem? (i := 940) (by decide +kernel)⟩
theorem lw_p40 : lw_okq (⟨"KernLessonsModel", "pairsAt", "(IZ)I"⟩, 17) := ⟨⟨by decide +kernel, by decide +kernel⟩, List.mem_of_getElem? (i := 689) (by decide +kernel), List.mem_of_getElem? (i := 943) (by decide +kernel), List.mem_of_getElem? (i := 944) (by decide +kernel)⟩
theorem lw_p41 : lw_okq (⟨"KernLessonsModel", "lessonTold", "(II)I"⟩, 17) := ⟨⟨by decide +kernel, by decide +kernel⟩, List.mem_of_getElem? (i := 689) (by decide +kernel), List.mem_of_getElem? (i := 951) (by decide +kernel), List.mem_of_getElem? (i := 952) (by decide +kernel)⟩
theorem lw_p42 : lw_okq (⟨"KernLessonsModel", "countTold", "(I)I"⟩, 17) := ⟨⟨by decide +kernel, by decide +kernel⟩, List.mem_of_getElem? (i := 689) (by decide +kernel), List.mem_of_getElem? (i := 959) (by decide +kernel), List.mem_of_getElem? (i := 960) (by decide +kernel)⟩
theorem lw_p43 : lw_okq (⟨"KernLessonsModel", "idleLessons", "()I"⟩, 17) := ⟨⟨by decide +kernel, by decide +kernel⟩, List.mem_of_getElem? (i := 689) (by decide +kernel), List.mem_of_getElem? (i := 963) (by decide +kernel), List.mem_of_getElem? (i := 964) (by decide +kernel)⟩
theorem lw_p44 : lw_okq (⟨"KernLessonsModel", "learntPairs", "()I"⟩, 17) := ⟨⟨by decide +kernel, by decide +kernel⟩, List.mem_of_getElem? (i := 689) (by decide +kernel), List.mem_of_getElem? (i := 967) (by decide +kernel), List.mem_of_getElem? (i := 968) (by decide +kernel)⟩
theorem lw_p45 : lw_okq (⟨"KernLessonsModel", "otherShapes", "()I"⟩, 17) := ⟨⟨by decide +kernel, by decide +kernel⟩, List.mem_of_getElem? (i := 689) (by decide +kernel), List.mem_of_getElem? (i := 971) (by decide +kernel), List.mem_of_getElem? (i := 972) (by decide +kernel)⟩
theorem lw_p46 : lw_okq (⟨"KernLessonsModel", "textTold", "(I)I"⟩, 17) := ⟨⟨by decide +kernel, by decide +kernel⟩, List.mem_of_getElem? (i := 689) (by decide +kernel), List.mem_of_getElem? (i := 983) (by decide +kernel), List.mem_of_getElem? (i := 984) (by decide +kernel)⟩
theorem lw_p47 : lw_okq (⟨"KernLessonsModel", "widthOfText", "()I"⟩, 17) := ⟨⟨by decide +kernel, by decide +kernel⟩, List.mem_of_getElem? (i := 689) (by decide +kernel), List.mem_of_getElem? (i := 987) (by decide +kernel), List.mem_of_getElem? (i := 988) (by decide +kernel)⟩
def lw_privs_3 : List (MethodName × Nat) := [(⟨"KernLessonsModel", "errorPlace", "()I"⟩, 17), (⟨"KernLessonsModel", "isWritten", "(I)Z"⟩, 17), (⟨"KernLessonsModel", "isText", "()Z"⟩, 17), (⟨"KernLessonsModel", "pairAt", "(I)I"⟩, 17), (⟨"KernLessonsModel", "letterTold", "(II)I"⟩, 17), (⟨"KernLessonsModel", "lessonsWith", "(I)I"⟩, 17), (⟨"KernLessonsModel", "pairTold", "(II)I"⟩, 17), (⟨"KernLessonsModel", "shapesTold", "(II)I"⟩, 17), (⟨"KernLessonsModel", "pairsAt", "(IZ)I"⟩, 17), (⟨"KernLessonsModel", "lessonTold", "(II)I"⟩, 17), (⟨"KernLessonsModel", "countTold", "(I)I"⟩, 17), (⟨"KernLessonsModel", "idleLessons", "()I"⟩, 17), (⟨"KernLessonsModel", "learntPairs", "()I"⟩, 17), (⟨"KernLessonsModel", "otherShapes", "()I"⟩, 17), (⟨"KernLessonsModel", "textTold", "(I)I"⟩, 17), (⟨"KernLessonsModel", "widthOfText", "()I"⟩, 17)]
theorem lw_r3 : ∀ q ∈ lw_privs_3, lw_okq q := List.forall_mem_cons.mpr ⟨lw_p32, List.forall_mem_cons.mpr ⟨lw_p33, List.forall_mem_cons.mpr ⟨lw_p34, List.forall_mem_cons.mpr ⟨lw_p35, List.forall_mem_cons.mpr ⟨lw_p36, List.forall_mem_cons.mpr ⟨lw_p37, List.forall_mem_cons.mpr ⟨lw_p38, List.forall_mem_cons.mpr ⟨lw_p39, List.forall_mem_cons.mpr ⟨lw_p40, List.forall_mem_cons.mpr ⟨lw_p41, List.forall_mem_cons.mpr ⟨lw_p42, List.forall_mem_cons.mpr ⟨lw_p43, List.forall_mem_cons.mpr ⟨lw_p44, List.forall_mem_cons.mpr ⟨lw_p45, List.forall_mem_cons.mpr ⟨lw_p46, List.forall_mem_cons.mpr ⟨lw_p47, fun _ h => absurd h List.not_mem_nil⟩⟩⟩⟩⟩⟩⟩⟩⟩⟩⟩⟩⟩⟩⟩⟩
theorem lw_p48 : lw_okq (⟨"KernLessonsModel", "widthOfWord", "(I)I"⟩, 17) := ⟨⟨by decide +kernel, by decide +kernel⟩, List.mem_of_getElem? (i := 689) (by decide +kernel), List.mem_of_getElem? (i := 991) (by decide +kernel), List.mem_of_getElem? (i := 992) (by decide +kernel)⟩
theorem lw_p49 : lw_okq (⟨"KernLessonsModel", "endOf", "(I)I"⟩, 17) := ⟨⟨by decide +kernel, by decide +kernel⟩, List.mem_of_getElem? (i := 689) (by decide +kernel), List.mem_of_getElem? (i := 995) (by decide +kernel), List.mem_of_getElem? (i := 996) (by decide +kernel)⟩
theorem lw_p50 : lw_okq (⟨"KernLessonsModel", "words", "()I"⟩, 17) := ⟨⟨by decide +kernel, by decide +kernel⟩, List.mem_of_getElem? (i := 689) (by decide +kernel), List.mem_of_getElem? (i := 999) (by decide +kernel), List.mem_of_getElem? (i := 1000) (by decide +kernel)⟩
theorem lw_p51 : lw_okq (⟨"KernLessonsModel", "widestWord", "()I"⟩, 17) := ⟨⟨by decide +kernel, by decide +kernel⟩, List.mem_of_getElem? (i := 689) (by decide +kernel), List.mem_of_getElem? (i := 1003) (by decide +kernel), List.mem_of_getElem? (i := 1004) (by decide +kernel)⟩
theorem lw_p52 : lw_okq (⟨"KernLessonsModel", "fewestLines", "()I"⟩, 17) := ⟨⟨by decide +kernel, by decide +kernel⟩, List.mem_of_getElem? (i := 689) (by decide +kernel), List.mem_of_getElem? (i := 1007) (by decide +kernel), List.mem_of_getElem? (i := 1008) (by decide +kernel)⟩
theorem lw_p53 : lw_okq (⟨"KernLessonsModel", "without", "(I)I"⟩, 17) := ⟨⟨by decide +kernel, by decide +kernel⟩, List.mem_of_getElem? (i := 689) (by decide +kernel), List.mem_of_getElem? (i := 1019) (by decide +kernel), List.mem_of_getElem? (i := 1020) (by decide +kernel)⟩
theorem lw_p54 : lw_okq (⟨"KernLessonsModel", "mainTold", "()I"⟩, 17) := ⟨⟨by decide +kernel, by decide +kernel⟩, List.mem_of_getElem? (i := 689) (by decide +kernel), List.mem_of_getElem? (i := 1027) (by decide +kernel), List.mem_of_getElem? (i := 1028) (by decide +kernel)⟩
theorem lw_p55 : lw_okq (⟨"KernLessonsModel", "shareTold", "()D"⟩, 17) := ⟨⟨by decide +kernel, by decide +kernel⟩, List.mem_of_getElem? (i := 689) (by decide +kernel), List.mem_of_getElem? (i := 1035) (by decide +kernel), List.mem_of_getElem? (i := 1036) (by decide +kernel)⟩
theorem lw_p56 : lw_okq (⟨"KernLessonsModel", "mix", "(J)V"⟩, 17) := ⟨⟨by decide +kernel, by decide +kernel⟩, List.mem_of_getElem? (i := 689) (by decide +kernel), List.mem_of_getElem? (i := 1045) (by decide +kernel), List.mem_of_getElem? (i := 1046) (by decide +kernel)⟩
theorem lw_p57 : lw_okq (⟨"KernLessonsModel", "mixPairs", "()V"⟩, 17) := ⟨⟨by decide +kernel, by decide +kernel⟩, List.mem_of_getElem? (i := 689) (by decide +kernel), List.mem_of_getElem? (i := 1050) (by decide +kernel), List.mem_of_getElem? (i := 1051) (by decide +kernel)⟩
theorem lw_p58 : lw_okq (⟨"KernLessonsModel", "mixLessons", "()V"⟩, 17) := ⟨⟨by decide +kernel, by decide +kernel⟩, List.mem_of_getElem? (i := 689) (by decide +kernel), List.mem_of_getElem? (i := 1054) (by decide +kernel), List.mem_of_getElem? (i := 1055) (by decide +kernel)⟩
def lw_privs_4 : List (MethodName × Nat) := [(⟨"KernLessonsModel", "widthOfWord", "(I)I"⟩, 17), (⟨"KernLessonsModel", "endOf", "(I)I"⟩, 17), (⟨"KernLessonsModel", "words", "()I"⟩, 17), (⟨"KernLessonsModel", "widestWord", "()I"⟩, 17), (⟨"KernLessonsModel", "fewestLines", "()I"⟩, 17), (⟨"KernLessonsModel", "without", "(I)I"⟩, 17), (⟨"KernLessonsModel", "mainTold", "()I"⟩, 17), (⟨"KernLessonsModel", "shareTold", "()D"⟩, 17), (⟨"KernLessonsModel", "mix", "(J)V"⟩, 17), (⟨"KernLessonsModel", "mixPairs", "()V"⟩, 17), (⟨"KernLessonsModel", "mixLessons", "()V"⟩, 17)]
theorem lw_r4 : ∀ q ∈ lw_privs_4, lw_okq q := List.forall_mem_cons.mpr ⟨lw_p48, List.forall_mem_cons.mpr ⟨lw_p49, List.forall_mem_cons.mpr ⟨lw_p50, List.forall_mem_cons.mpr ⟨lw_p51, List.forall_mem_cons.mpr ⟨lw_p52, List.forall_mem_cons.mpr ⟨lw_p53, List.forall_mem_cons.mpr ⟨lw_p54, List.forall_mem_cons.mpr ⟨lw_p55, List.forall_mem_cons.mpr ⟨lw_p56, List.forall_mem_cons.mpr ⟨lw_p57, List.forall_mem_cons.mpr ⟨lw_p58, fun _ h => absurd h List.not_mem_nil⟩⟩⟩⟩⟩⟩⟩⟩⟩⟩⟩
def lw_privs : List (MethodName × Nat) := lw_privs_1 ++ (lw_privs_2 ++ (lw_privs_3 ++ (lw_privs_4)))
def lw_tbl : List Cond := k2_sels lw_privs ++ tables_1
theorem lw_privs_ok : ∀ q ∈ lw_privs, lw_okq q := by
  show ∀ q ∈ lw_privs_1 ++ (lw_privs_2 ++ (lw_privs_3 ++ (lw_privs_4))), lw_okq q
  exact List.forall_mem_append.mpr ⟨lw_r1, List.forall_mem_append.mpr ⟨lw_r2, List.forall_mem_append.mpr ⟨lw_r3, lw_r4⟩⟩⟩
/-- the streams that the claim lets the run draw from -/
abbrev lw_cs : List Choice := [Jvm.Choice.named "NaN.bits"]
theorem lw_bits : nanBits ∈ lw_cs := by first | decide | exact List.mem_cons_self | simp [lw_cs, nanBits]
-- ===== end of PART A; then your names; then what follows =====
end
section
/-! ===== BEGIN words of one list among another's, by their places ===== -/
theorem goodIn_r {big : List Cond} (ws : List Cond) (ps : List Nat) (hp : ws = ps.filterMap (fun i => big[i]?)) (h : ws.all goodWord = true) : GoodIn big ws := by
  intro w hw
  have h1 := List.all_eq_true.mp h w hw
  rw [hp] at hw
  obtain ⟨i, -, hi⟩ := List.mem_filterMap.mp hw
  have hm : w ∈ big := by first | exact List.mem_of_getElem? hi | exact List.getElem?_mem hi
  exact ⟨hm, good_of_word h1⟩
theorem goodIn_app {big a b : List Cond} (ha : GoodIn big a) (hb : GoodIn big b) : GoodIn big (a ++ b) := fun w h => (List.mem_append.mp h).elim (ha w) (hb w)
theorem goodIn_ca {big a b : List Cond} {c : Cond} (ha : GoodIn big (c :: a)) (hb : GoodIn big b) : GoodIn big (c :: (a ++ b)) := fun w h => (List.mem_cons.mp h).elim (fun e => ha w (List.mem_cons.mpr (Or.inl e))) (fun h => (List.mem_append.mp h).elim (fun h => ha w (List.mem_cons.mpr (Or.inr h))) (hb w))
theorem goodIn_sub {big ws : List Cond} (hm : ∀ w ∈ ws, w ∈ big) (h : ws.all goodWord = true) : GoodIn big ws := fun w hw => ⟨hm w hw, good_of_word (List.all_eq_true.mp h w hw)⟩
/-! ===== END ===== -/

/-! ===== BEGIN exceptions that leave a method, and their catching by the caller (launches without stack traces) ===== -/
section VXA
/-! The laws vx_back, vx_callV, vx_callS, vx_callSW, vx_throw0, vx_throwS follow proofs of the library, with one case more: JvmDerived/Free/Laws.lean (Back.of_free), Shelf42/LK1.lean (callV, callS), Shelf/KitTraced.lean (throwNew0V, throwNewS). -/
/-- where a method has thrown q: the class by its name, the cell, what was written, the world -/
def vx_T (XC : String → State → State → Prop) (st : State) (q : Addr) (t : State) (mc ms : Nat) (free : Addr → Prop) : Prop :=
  ∃ (E : String) (ce : Cell) (L : List Loc), XC E st t ∧ t.heap[q]? = some ce ∧ ce.vm = .none ∧ st.vm.findClass E = some ce.cls ∧ st.WarmedH t.vm ∧ st.sameButNew ({ t with vm := st.vm } : State) L mc ms ∧ ∀ z ∈ L, free z.base
def vx_Q (Qc : Array Value → State → Outcome → State → Prop) (XC : String → State → State → Prop) (mc ms : Nat) (free : Addr → Prop) : Array Value → State → Outcome → State → Prop := fun a st o t =>
  (Qc a st o t ∧ ∃ L, FrameEnd st o t L mc ms ∧ ∀ q ∈ L, free q.base) ∨ ∃ q, o = .threw q ∧ vx_T XC st q t mc ms free
/-- a callee that returns or throws -/
def vx_Met (l : Launch) (y : MethodName) (ws : List Cond) (rm : Room) (Pc : Array Value → State → Prop) (Qc : Array Value → State → Outcome → State → Prop) (XC : String → State → State → Prop) (mc ms : Nat) (free : Addr → Prop) : Prop :=
  MetFree l y (headSpec ws rm) Pc (fun _ _ _ _ _ => True) (vx_Q Qc XC mc ms free)
def vx_Post (XC : String → State → State → Prop) (mc ms : Nat) (free : Addr → Prop) : Pt → Array Value → Addr → Pt → Prop := fun A a q B =>
  ∃ (g : JFrame) (mk : MethodId) (t : State) (L : List Loc) (E : String) (ce : Cell), B.U.heap = t.heap ∧ B.U.vm = t.vm ∧ XC E (A.U.calling g mk a) t ∧ t.heap[q]? = some ce ∧ ce.vm = .none ∧ A.U.vm.findClass E = some ce.cls ∧ B.locs = A.locs ++ L ∧ (∀ z ∈ L, free z.base) ∧ B.cells = A.cells + mc ∧ B.slots = A.slots + ms
def vx_Back (l : Launch) (R : Room) (p : Program) (e : Env) (below : List Frame) (s : State) (sargs : Array Value) (y : MethodName) (len W9 : Nat)
    (Pre : Pt → Array Value → Prop) (Post : Pt → Array Value → Option Value → Pt → Prop) (PostX : Pt → Array Value → Addr → Pt → Prop) : Prop :=
  ∀ (m : MethodId) (meth : Method) (c : Code) (A : Pt) (g : JFrame) (ig : Instr) (mk : MethodId) (a : Array Value),
    Stand p l e R s m sargs below meth c A.U A.locs A.cells A.slots → g.method = m → g.locals.size = c.maxLocals → decode c.code g.pc = .ok (ig, len) →
    2 * g.monitorRoom + (g.stack.map fun v => v.category).sum ≤ W9 → A.U.methodNamed? y = some mk → Pre A a →
    (∃ (v : Option Value) (B : Pt), Stand p l e R s m sargs below meth c B.U B.locs B.cells B.slots ∧ Post A a v B ∧
      Steps p.tables e below (doInvoke e (A.U.setTop g) [] mk a).1 (B.U.setTop { g with pc := g.pc + len, stack := v.toList ++ g.stack })) ∨
    (∃ (q : Addr) (B : Pt), Stand p l e R s m sargs below meth c B.U B.locs B.cells B.slots ∧ PostX A a q B ∧
      Steps p.tables e below (doInvoke e (A.U.setTop g) [] mk a).1 ((B.U.setTop g).pushFrame (.throwing q)))
section Payer
variable {l : Launch} {R : Room} {p : Program} {e : Env} {below : List Frame} {s : State} {sargs : Array Value} {y : MethodName} {len W9 : Nat}
theorem vx_back {ws : List Cond} {rm : Room} {Pc : Array Value → State → Prop} {Qc : Array Value → State → Outcome → State → Prop} {XC : String → State → State → Prop} {mc ms : Nat} {free : Addr → Prop} {bytes : ByteArray} {maxL : Nat} {ret : Option FieldType}
    (hM : vx_Met l y ws rm Pc Qc XC mc ms free) (hblind : FrameBlind Pc) (hrc : rm.cells = mc) (hrs : rm.slots = ms)
    (hframes : rm.frames + 1 ≤ R.frames) (hlocals : W9 + (maxL + 11) + rm.locals ≤ R.locals)
    (hws : ∀ w ∈ ws, ∀ a' U, s.WarmedH U.vm → w.before a' U = true) (hcode : Cond.code y bytes maxL ret ∈ ws) (hinit : ∀ a' U, s.WarmedH U.vm → (Cond.initialized y.cls).before a' U = true) :
    vx_Back l R p e below s sargs y len W9 (PreOf R mc ms Pc) (PostOf Qc mc ms free) (vx_Post XC mc ms free) := by
  intro m meth c A g ig mk a X hg hsize hdg hW hn hp
  have h1 : (headSpec ws rm).pre.before a A.U = true := atoms_intro fun w hw => hws w hw _ _ X.warmed
  have h2 : (Cond.code y bytes maxL ret).before a A.U = true := hws _ hcode _ _ X.warmed
  have h3 : (Cond.initialized y.cls).before a A.U = true := hinit _ _ X.warmed
  have h4 : A.cells + (headSpec ws rm).room.cells ≤ R.cells := by rw [show (headSpec ws rm).room.cells = mc from hrc]; exact hp.1
  have h5 : A.slots + (headSpec ws rm).room.slots ≤ R.slots := by rw [show (headSpec ws rm).room.slots = ms from hrs]; exact hp.2.1
  have hPc : Pc a (A.U.calling g mk a) := hblind _ _ _ _ hp.2.2
  obtain ⟨U, Ls, c0, s0⟩ := A
  dsimp only [Pt.U, Pt.locs, Pt.cells, Pt.slots] at h1 h2 h3 h4 h5 X hn hPc ⊢
  obtain ⟨methY, cY, hmY, hcY, -, hlY, -, -, -, -⟩ := Cond.code_spec hn h2
  obtain ⟨kY, hkY, -⟩ := className_of_methodNamed hn
  have hinitY : kY.init = .initialized := Cond.initialized_spec (findClass_of_methodNamed hn) hkY h3
  have h : At U g.method c below := by rw [hg]; exact X.here
  have hlocals9 : W9 + (maxL + 11) + (headSpec ws rm).room.locals ≤ R.locals := hlocals
  have happ : (headSpec ws rm).appliesLoose y e.platform (U.calling g mk a) = true :=
    Spec.appliesLoose_calling (g := g) h hdg hn hkY hinitY
      (X.room_calling (g := g) (R' := (headSpec ws rm).room) hsize hmY hcY hframes (by rw [hlY]; omega) h4 h5) h1
  obtain ⟨mid, hmid⟩ := h.above
  have hfr : (U.setTop g).frames = (.java g :: mid) ++ below := by rw [State.frames_setTop' g h.top, hmid]; rfl
  obtain ⟨o, s₂, hsteps, -, hend, hq⟩ := Steps.callFree hM p X.admits X.cas X.clock (acts := []) hfr happ hPc trivial
  have hq' : vx_Q Qc XC mc ms free a (U.calling g mk a) o s₂ := hq
  rw [State.frames_setTop' g h.top] at hend
  obtain ⟨g₀, hg0⟩ := Option.isSome_iff_exists.mp h.top
  obtain ⟨r, hr⟩ := State.topJava?_eq_some.mp hg0
  have hr' : (({ U with heap := s₂.heap, slotsUsed := s₂.slotsUsed } : State).setVm s₂.vm).frames = .java g₀ :: r := hr
  rcases hq' with ⟨hqc, L, hfe, hL⟩ | ⟨q, rfl, E, ce, L, hx, hce, hcv, hcl, hW₂, hsm, hL⟩
  · obtain ⟨⟨v, rfl⟩, hW₂, e2, q2, q3, q4, q5, q6⟩ := id hfe
    have e3 : s₂ = ({ (U.calling g mk a).setFrames s₂.frames with heap := s₂.heap, slotsUsed := s₂.slotsUsed } : State).setVm s₂.vm := by
      have : s₂ = ({ s₂ with vm := (U.calling g mk a).vm } : State).setVm s₂.vm := rfl
      rw [e2] at this
      exact this
    obtain ⟨c₂, i₂, len₂, hc₂, hd₂, hf₂⟩ := hend
    have hW' : U.WarmedH s₂.vm := hW₂
    have hcc : c₂ = c := by
      have h1 : s₂.code? g.method = U.code? g.method := by
        rw [State.code?_eq, State.code?_eq, hW'.alike.method?]
      exact Option.some.inj (hc₂.symm.trans (h1.trans h.code))
    subst hcc
    have hlen : len₂ = len := by rw [hdg] at hd₂; cases hd₂; rfl
    subst hlen
    have hs₂ : s₂ = (({ U with heap := s₂.heap, slotsUsed := s₂.slotsUsed } : State).setVm s₂.vm).setTop { g with pc := g.pc + len₂, stack := v.toList ++ g.stack } := by
      refine e3.trans ?_
      rw [hf₂, State.calling_eq h.top, State.setFrames_setFrames, State.setTop_of_frames _ hr', hr]
      rfl
    have hsame : U.sameButNew ({ U with heap := s₂.heap, slotsUsed := s₂.slotsUsed } : State) L mc ms := by
      refine ⟨?_, q2, q3, q4, q5, q6⟩
      obtain ⟨t, ht, -⟩ := State.frames_cons hr
      show ({ U with heap := s₂.heap, slotsUsed := s₂.slotsUsed } : State) = { U.setFrames U.frames with heap := s₂.heap, slotsUsed := s₂.slotsUsed }
      rw [State.setFrames_self ht]
    subst hg
    refine Or.inl ⟨v, ⟨(({ U with heap := s₂.heap, slotsUsed := s₂.slotsUsed } : State).setVm s₂.vm), Ls ++ L, c0 + mc, s0 + ms⟩,
      ⟨X.admits, X.cas, X.clock, X.frames, X.room, X.hears, X.method, X.code, (X.here.setHeapUsed s₂.heap s₂.slotsUsed).setVm hW'.alike, X.tail, State.WarmedH.trans X.warmed hW', X.limits, X.bytes, X.same.trans (hsame.setVm s.vm)⟩,
      ⟨g, mk, s₂, L, rfl, rfl, hqc, rfl, hL, rfl, rfl⟩, ?_⟩
    show Steps p.tables e below _ ((({ U with heap := s₂.heap, slotsUsed := s₂.slotsUsed } : State).setVm s₂.vm).setTop { g with pc := g.pc + len₂, stack := v.toList ++ g.stack })
    rw [← hs₂]
    exact hsteps
  · obtain ⟨e2, q2, q3, q4, q5, q6⟩ := id hsm
    have e3 : s₂ = ({ (U.calling g mk a).setFrames s₂.frames with heap := s₂.heap, slotsUsed := s₂.slotsUsed } : State).setVm s₂.vm := by
      have : s₂ = ({ s₂ with vm := (U.calling g mk a).vm } : State).setVm s₂.vm := rfl
      rw [e2] at this
      exact this
    have hf₂ : s₂.frames = .throwing q :: .java g :: U.frames.tail := hend
    have hW' : U.WarmedH s₂.vm := hW₂
    have hs₂ : s₂ = ((({ U with heap := s₂.heap, slotsUsed := s₂.slotsUsed } : State).setVm s₂.vm).setTop g).pushFrame (.throwing q) := by
      refine e3.trans ?_
      rw [hf₂, State.calling_eq h.top, State.setFrames_setFrames, State.pushFrame, State.frames_setTop _ hr', State.setTop_of_frames _ hr', State.setFrames_setFrames, hr]
      rfl
    have hsame : U.sameButNew ({ U with heap := s₂.heap, slotsUsed := s₂.slotsUsed } : State) L mc ms := by
      refine ⟨?_, q2, q3, q4, q5, q6⟩
      obtain ⟨t, ht, -⟩ := State.frames_cons hr
      show ({ U with heap := s₂.heap, slotsUsed := s₂.slotsUsed } : State) = { U.setFrames U.frames with heap := s₂.heap, slotsUsed := s₂.slotsUsed }
      rw [State.setFrames_self ht]
    subst hg
    refine Or.inr ⟨q, ⟨(({ U with heap := s₂.heap, slotsUsed := s₂.slotsUsed } : State).setVm s₂.vm), Ls ++ L, c0 + mc, s0 + ms⟩,
      ⟨X.admits, X.cas, X.clock, X.frames, X.room, X.hears, X.method, X.code, (X.here.setHeapUsed s₂.heap s₂.slotsUsed).setVm hW'.alike, X.tail, State.WarmedH.trans X.warmed hW', X.limits, X.bytes, X.same.trans (hsame.setVm s.vm)⟩,
      ⟨g, mk, s₂, L, E, ce, rfl, rfl, hx, hce, hcv, hcl, rfl, hL, rfl, rfl⟩, ?_⟩
    show Steps p.tables e below _ (((({ U with heap := s₂.heap, slotsUsed := s₂.slotsUsed } : State).setVm s₂.vm).setTop g).pushFrame (.throwing q))
    rw [← hs₂]
    exact hsteps
end Payer
section Calls
variable {p : Program} {l : Launch} {e : Env} {R : Room} {s : State} {m : MethodId} {args : Array Value} {below : List Frame} {meth : Method} {c : Code} {T : State} {locs : List Loc} {cells slots : Nat}
theorem vx_callV (X : Stand p l e R s m args below meth c T locs cells slots) (hexec : p.tables.exec = Jvm.exec) {own C : String} {index : Nat} {y : MethodName} {bytes : ByteArray} {maxL : Nat} {ret : Option FieldType}
    (hown : s.vm.findClass own = some m.cls) (hlink : (Cond.methodLink own index y).before args s = true) (hinst : (Cond.instanceMethod y).before args s = true) (hsel : (Cond.selects C y y).before args s = true)
    (hcode : (Cond.code y bytes maxL ret).before args s = true) (hy : y.cls ≠ "java/lang/invoke/MethodHandle" ∧ y.cls ≠ "java/lang/invoke/VarHandle")
    {W9 : Nat} {Pre : Pt → Array Value → Prop} {Post : Pt → Array Value → Option Value → Pt → Prop} {PostX : Pt → Array Value → Addr → Pt → Prop} (hK : vx_Back l R p e below s args y 3 W9 Pre Post PostX)
    {b : Addr} {cellB : Cell} (hcell : T.heap[b]? = some cellB) (hobj : cellB.vm.isStatics = false) (hcls : s.vm.findClass C = some cellB.cls)
    {g : JFrame} (hg : g.method = m) (hsize : g.locals.size = c.maxLocals) {argsL rest : List Value} (hlen : ∀ sig, parseMethodDescriptor y.desc = some sig → argsL.length = sig.parameters.length)
    (hstack : g.stack = argsL.reverse ++ .ref b :: rest) (hW : 2 * g.monitorRoom + (rest.map fun v => v.category).sum ≤ W9) (hdg : decode c.code g.pc = .ok (.invokevirtual index, 3))
    (hpre : ∀ vm₁, s.WarmedH vm₁ → Pre ⟨T.setVm vm₁, locs, cells, slots⟩ (Value.ref b :: argsL).toArray) :
    (∃ (v : Option Value) (vm₁ : Vm) (B : Pt), s.WarmedH vm₁ ∧ Stand p l e R s m args below meth c B.U B.locs B.cells B.slots ∧ Post ⟨T.setVm vm₁, locs, cells, slots⟩ (Value.ref b :: argsL).toArray v B ∧
      ∀ target, Steps p.tables e below (B.U.setTop { g with pc := g.pc + 3, stack := v.toList ++ rest }) target → Steps p.tables e below (T.setTop g) target) ∨
    (∃ (q : Addr) (vm₁ : Vm) (B : Pt), s.WarmedH vm₁ ∧ Stand p l e R s m args below meth c B.U B.locs B.cells B.slots ∧ PostX ⟨T.setVm vm₁, locs, cells, slots⟩ (Value.ref b :: argsL).toArray q B ∧
      Steps p.tables e below (T.setTop g) ((B.U.setTop { g with stack := rest }).pushFrame (.throwing q))) := by
  obtain ⟨mk, methM, hnamed, hmethM, hstM, habM⟩ := Cond.instanceMethod_spec hinst
  obtain ⟨methM', cM, hmethM', -, -, -, -, -, -, hsigM⟩ := Cond.code_spec hnamed hcode
  cases hmethM.symm.trans hmethM'
  obtain ⟨c2, r2, m2, q1, q2, q3, q4, kP, hkP, hkPi⟩ := Cond.selects_spec hsel
  cases hcls.symm.trans q1
  cases (State.methodFound?_of_named hnamed hy).symm.trans q2
  cases hnamed.symm.trans q3
  have hselP : selectMethod e.platform s.vm cellB.cls mk = .method mk := by rw [Launch.admits_selectMethod X.admits]; exact q4
  obtain ⟨vm₁, X₁, hstep₁⟩ := X.invokevirtual hexec hown hlink hnamed hmethM hstM hkP hkPi hy (a := b) (cell := cellB) hcell
    (fun z h => by rw [h] at hobj; cases hobj) hselP hmethM habM hkP hkPi (g := g) hg (argsL := argsL) (rest := rest) (hlen _ hsigM) hstack hdg
  rcases hK m meth c ⟨T.setVm vm₁, locs, cells, slots⟩ { g with stack := rest } (.invokevirtual index) mk (Value.ref b :: argsL).toArray X₁ hg hsize hdg hW (X₁.named hnamed) (hpre vm₁ X₁.warmed) with ⟨v, B, X', hpost, hsteps⟩ | ⟨q, B, X', hpost, hsteps⟩
  · exact Or.inl ⟨v, vm₁, B, X₁.warmed, X', hpost, fun target h => hstep₁ _ fun acts => by rw [doInvoke_state]; exact hsteps.trans h⟩
  · exact Or.inr ⟨q, vm₁, B, X₁.warmed, X', hpost, hstep₁ _ fun acts => by rw [doInvoke_state]; exact hsteps⟩
theorem vx_callS (X : Stand p l e R s m args below meth c T locs cells slots) (hexec : p.tables.exec = Jvm.exec) {own : String} {index : Nat} {y : MethodName} {bytes : ByteArray} {maxL : Nat} {ret : Option FieldType}
    (hown : s.vm.findClass own = some m.cls) (hlink : (Cond.methodLink own index y).before args s = true) (hstat : (Cond.static y).before args s = true) (hinit : (Cond.initialized y.cls).before args s = true)
    (hcode : (Cond.code y bytes maxL ret).before args s = true) (hy : y.cls ≠ "java/lang/invoke/MethodHandle" ∧ y.cls ≠ "java/lang/invoke/VarHandle")
    {W9 : Nat} {Pre : Pt → Array Value → Prop} {Post : Pt → Array Value → Option Value → Pt → Prop} {PostX : Pt → Array Value → Addr → Pt → Prop} (hK : vx_Back l R p e below s args y 3 W9 Pre Post PostX)
    {g : JFrame} (hg : g.method = m) (hsize : g.locals.size = c.maxLocals) {argsL rest : List Value} (hlen : ∀ sig, parseMethodDescriptor y.desc = some sig → argsL.length = sig.parameters.length)
    (hstack : g.stack = argsL.reverse ++ rest) (hW : 2 * g.monitorRoom + (rest.map fun v => v.category).sum ≤ W9) (hdg : decode c.code g.pc = .ok (.invokestatic index, 3))
    (hpre : ∀ vm₁, s.WarmedH vm₁ → Pre ⟨T.setVm vm₁, locs, cells, slots⟩ argsL.toArray) :
    (∃ (v : Option Value) (vm₁ : Vm) (B : Pt), s.WarmedH vm₁ ∧ Stand p l e R s m args below meth c B.U B.locs B.cells B.slots ∧ Post ⟨T.setVm vm₁, locs, cells, slots⟩ argsL.toArray v B ∧
      ∀ target, Steps p.tables e below (B.U.setTop { g with pc := g.pc + 3, stack := v.toList ++ rest }) target → Steps p.tables e below (T.setTop g) target) ∨
    (∃ (q : Addr) (vm₁ : Vm) (B : Pt), s.WarmedH vm₁ ∧ Stand p l e R s m args below meth c B.U B.locs B.cells B.slots ∧ PostX ⟨T.setVm vm₁, locs, cells, slots⟩ argsL.toArray q B ∧
      Steps p.tables e below (T.setTop g) ((B.U.setTop { g with stack := rest }).pushFrame (.throwing q))) := by
  obtain ⟨mk, hnamed⟩ := Cond.code_named hcode
  obtain ⟨methM, cM, hmethM, -, -, -, -, -, -, hsigM⟩ := Cond.code_spec hnamed hcode
  have hstatic : methM.isStatic = true := Cond.static_spec hnamed hmethM hstat
  obtain ⟨kP, hkP, -⟩ := className_of_methodNamed hnamed
  have hinitP : kP.init = .initialized := Cond.initialized_spec (findClass_of_methodNamed hnamed) hkP hinit
  obtain ⟨vm₁, X₁, hstep₁⟩ := X.invokestatic hexec hown hlink hnamed hmethM hstatic hkP hinitP hy (g := g) hg (argsL := argsL) (rest := rest) (hlen _ hsigM) hstack hdg
  rcases hK m meth c ⟨T.setVm vm₁, locs, cells, slots⟩ { g with stack := rest } (.invokestatic index) mk argsL.toArray X₁ hg hsize hdg hW (X₁.named hnamed) (hpre vm₁ X₁.warmed) with ⟨v, B, X', hpost, hsteps⟩ | ⟨q, B, X', hpost, hsteps⟩
  · exact Or.inl ⟨v, vm₁, B, X₁.warmed, X', hpost, fun target h => hstep₁ _ fun acts => by rw [doInvoke_state]; exact hsteps.trans h⟩
  · exact Or.inr ⟨q, vm₁, B, X₁.warmed, X', hpost, hstep₁ _ fun acts => by rw [doInvoke_state]; exact hsteps⟩
end Calls
theorem vx_cls {s : State} {T : State} {vm₁ : Vm} {E : String} {k : ClassId} (hW : s.WarmedH vm₁) (h : (T.setVm vm₁).vm.findClass E = some k) : s.vm.findClass E = some k := by
  have h1 : vm₁.findClass E = some k := h
  rw [hW.alike.findClass] at h1
  exact h1
/-- the method's frame g, with q thrown over it -/
def vx_W (p : Program) (l : Launch) (e : Env) (R : Room) (s : State) (m : MethodId) (args : Array Value) (below : List Frame) (meth : Method) (c : Code) (H : Heap) (locs : List Loc) (cells slots : Nat) (Q : State → Prop) (g : JFrame) (q : Addr) : Prop :=
  ∀ T : State, T.heap = H → Stand p l e R s m args below meth c T locs cells slots → ∃ t, Steps p.tables e below ((T.setTop g).pushFrame (.throwing q)) t ∧ Q t
def vx_Run (p : Program) (l : Launch) (e : Env) (R : Room) (s : State) (m : MethodId) (args : Array Value) (below : List Frame) (meth : Method) (c : Code) (H : Heap) (locs : List Loc) (cells slots mc ms : Nat) (g : JFrame) (rest : List Value) (Qa : State → Outcome → State → Prop) (XC : String → State → State → Prop) (free : Addr → Prop) : Prop :=
  ∀ T : State, T.heap = H → Stand p l e R s m args below meth c T locs cells slots →
    (∃ (v : Option Value) (st₀ t T' : State) (L : List Loc), st₀.heap = H ∧ Stand p l e R s m args below meth c T' (locs ++ L) (cells + mc) (slots + ms) ∧ (∀ q ∈ L, free q.base) ∧ T'.heap = t.heap ∧ T'.vm = t.vm ∧ Qa st₀ (.returned v) t ∧
      Goes p e below T g T' { g with pc := g.pc + 3, stack := v.toList ++ rest }) ∨
    (∃ (q : Addr) (st₀ t T' : State) (L : List Loc) (E : String) (ce : Cell), st₀.heap = H ∧ Stand p l e R s m args below meth c T' (locs ++ L) (cells + mc) (slots + ms) ∧ (∀ z ∈ L, free z.base) ∧ T'.heap = t.heap ∧ T'.vm = t.vm ∧ XC E st₀ t ∧ t.heap[q]? = some ce ∧ ce.vm = .none ∧ s.vm.findClass E = some ce.cls ∧
      Steps p.tables e below (T.setTop g) ((T'.setTop { g with stack := rest }).pushFrame (.throwing q)))
def vx_X {S : Type} (px : S → Prop) (B : String → S → State → Prop) (A : Nat → Prop) : String → State → State → Prop := fun E st t => ∃ u : S, px u ∧ B E u t ∧ va_F A st t
section Runs
variable {p : Program} {l : Launch} {e : Env} {R : Room} {s : State} {m : MethodId} {args : Array Value} {below : List Frame} {meth : Method} {c : Code} {H : Heap} {locs : List Loc} {cells slots : Nat}
variable {y : MethodName} {bytes cc : ByteArray} {maxL nL mc ms n index : Nat} {ret : Option FieldType} {ws : List Cond} {rm : Room} {Pc : Array Value → State → Prop} {Qc : Array Value → State → Outcome → State → Prop} {XC : String → State → State → Prop} {free : Addr → Prop} {Ts : List Cond} {own C : String} {b : Addr} {As rest : List Value} {g : JFrame}
theorem vx_callBack (cb : CallB R s args own index y bytes maxL ret ws rm mc ms n) (hM : vx_Met l y ws rm Pc Qc XC mc ms free) (hbl : FrameBlind Pc) : vx_Back l R p e below s args y 3 8 (PreOf R mc ms Pc) (PostOf Qc mc ms free) (vx_Post XC mc ms free) := by
  obtain ⟨hrc, hrs, hfr, hlo, hws, hcw, -, hini, -⟩ := cb
  exact vx_back (bytes := bytes) (maxL := maxL) (ret := ret) hM hbl hrc hrs hfr hlo hws hcw (fun a' U hW => word_at hW (Or.inl (by first | rfl | simp [Cond.onTables, Cond.keeps, Cond.steady])) hini)
theorem vx_runV (S : CallFix p m c cc nL s args Ts own) (hM : vx_Met l y ws rm Pc Qc XC mc ms free) (cw : CallW R s args own C index y bytes maxL ret ws rm mc ms n) (hp : PreV s H C b Pc As)
    (hg : g.method = m) (hn : As.length = n) (hsize : g.locals.size = nL) (hstack : g.stack = As.reverse ++ .ref b :: rest) (hW : 2 * g.monitorRoom + (rest.map fun v => v.category).sum ≤ 8) (hdg : decode cc g.pc = .ok (.invokevirtual index, 3)) (hf : cells + mc ≤ R.cells ∧ slots + ms ≤ R.slots) :
    vx_Run p l e R s m args below meth c H locs cells slots mc ms g rest (Qc (Value.ref b :: As).toArray) XC free := by
  have hK : vx_Back l R p e below s args y 3 8 (PreOf R mc ms Pc) (PostOf Qc mc ms free) (vx_Post XC mc ms free) := vx_callBack cw.1 hM hp.1
  obtain ⟨⟨-, -, -, -, -, -, hcode, -, hy, hlen, hl⟩, hin, hse⟩ := cw
  obtain ⟨hx, hb, hml, ho, -⟩ := S
  obtain ⟨-, ⟨cellB, hcB, hoB, hclB⟩, hPc⟩ := hp
  intro T hT X
  rcases vx_callV X hx (C := C) (bytes := bytes) (maxL := maxL) (ret := ret) ho hl hin hse hcode hy hK (by rw [hT]; exact hcB) hoB hclB hg (hsize.trans hml.symm) (argsL := As) (rest := rest) (fun sig h => hn.trans (hlen sig h)) hstack hW (by rw [hb]; exact hdg)
    (fun vm₁ hW₁ => ⟨hf.1, hf.2, hPc (T.setVm vm₁) hT hW₁⟩) with ⟨v, vm₁, ⟨U', l2, c2, s2⟩, hW₁, X', ⟨g', mk, t, L, e1, e2, hq, h1, hL, h2, h3⟩, st⟩ | ⟨q, vm₁, ⟨U', l2, c2, s2⟩, hW₁, X', ⟨g', mk, t, L, E, ce, e1, e2, hq, hce, hcv, hcl, h1, hL, h2, h3⟩, st⟩
  · dsimp only [Pt.U, Pt.locs, Pt.cells, Pt.slots] at X' e1 e2 h1 h2 h3 st
    subst h1; subst h2; subst h3
    exact Or.inl ⟨v, (T.setVm vm₁).calling g' mk (Value.ref b :: As).toArray, t, U', L, hT, X', hL, e1, e2, hq, st⟩
  · dsimp only [Pt.U, Pt.locs, Pt.cells, Pt.slots] at X' e1 e2 h1 h2 h3 st hcl
    subst h1; subst h2; subst h3
    exact Or.inr ⟨q, (T.setVm vm₁).calling g' mk (Value.ref b :: As).toArray, t, U', L, E, ce, hT, X', hL, e1, e2, hq, hce, hcv, vx_cls hW₁ hcl, st⟩
theorem vx_runS (S : CallFix p m c cc nL s args Ts own) (hM : vx_Met l y ws rm Pc Qc XC mc ms free) (cw : CallB R s args own index y bytes maxL ret ws rm mc ms n ∧ (Cond.static y).before args s = true) (hp : PreS s H Pc As)
    (hg : g.method = m) (hn : As.length = n) (hsize : g.locals.size = nL) (hstack : g.stack = As.reverse ++ rest) (hW : 2 * g.monitorRoom + (rest.map fun v => v.category).sum ≤ 8) (hdg : decode cc g.pc = .ok (.invokestatic index, 3)) (hf : cells + mc ≤ R.cells ∧ slots + ms ≤ R.slots) :
    vx_Run p l e R s m args below meth c H locs cells slots mc ms g rest (Qc As.toArray) XC free := by
  have hK : vx_Back l R p e below s args y 3 8 (PreOf R mc ms Pc) (PostOf Qc mc ms free) (vx_Post XC mc ms free) := vx_callBack cw.1 hM hp.1
  obtain ⟨⟨-, -, -, -, -, -, hcode, hini, hy, hlen, hl⟩, hstt⟩ := cw
  obtain ⟨hx, hb, hml, ho, -⟩ := S
  intro T hT X
  rcases vx_callS X hx (bytes := bytes) (maxL := maxL) (ret := ret) ho hl hstt hini hcode hy hK hg (hsize.trans hml.symm) (argsL := As) (rest := rest) (fun sig h => hn.trans (hlen sig h)) hstack hW (by rw [hb]; exact hdg)
    (fun vm₁ hW₁ => ⟨hf.1, hf.2, hp.2 (T.setVm vm₁) hT hW₁⟩) with ⟨v, vm₁, ⟨U', l2, c2, s2⟩, hW₁, X', ⟨g', mk, t, L, e1, e2, hq, h1, hL, h2, h3⟩, st⟩ | ⟨q, vm₁, ⟨U', l2, c2, s2⟩, hW₁, X', ⟨g', mk, t, L, E, ce, e1, e2, hq, hce, hcv, hcl, h1, hL, h2, h3⟩, st⟩
  · dsimp only [Pt.U, Pt.locs, Pt.cells, Pt.slots] at X' e1 e2 h1 h2 h3 st
    subst h1; subst h2; subst h3
    exact Or.inl ⟨v, (T.setVm vm₁).calling g' mk As.toArray, t, U', L, hT, X', hL, e1, e2, hq, st⟩
  · dsimp only [Pt.U, Pt.locs, Pt.cells, Pt.slots] at X' e1 e2 h1 h2 h3 st hcl
    subst h1; subst h2; subst h3
    exact Or.inr ⟨q, (T.setVm vm₁).calling g' mk As.toArray, t, U', L, E, ce, hT, X', hL, e1, e2, hq, hce, hcv, vx_cls hW₁ hcl, st⟩
end Runs
section Rows
variable {p : Program} {l : Launch} {e : Env} {R : Room} {s : State} {m : MethodId} {args : Array Value} {below : List Frame} {meth : Method} {c : Code} {H : Heap} {locs : List Loc} {cells slots : Nat} {Q : State → Prop}
variable {mc ms : Nat} {free : Addr → Prop} {A0 A1 : Nat → Prop} {H0 : Heap} {a : Array Value} {pc : Nat} {ls : Array Slot} {st0 rest : List Value}
theorem vx_keep {st₀ t T' : State} {L : List Loc} (h0 : st₀.heap = H) (e1 : T'.heap = t.heap) (hS : va_S A0 H0 H locs) (hA : ∀ q, q < H.size → A1 q → A0 q) (hf : ∀ q, free q → A0 q) (hL : ∀ q ∈ L, free q.base) (hF : va_F A1 st₀ t) :
    H.size ≤ T'.heap.size ∧ (∀ q : Nat, q < H.size → ¬ A1 q → T'.heap[q]? = H[q]?) ∧ va_S A0 H0 T'.heap (locs ++ L) := by
  obtain ⟨hz, hk⟩ := hF
  rw [h0] at hz hk
  exact ⟨by rw [e1]; exact hz, fun q h1 h2 => by rw [e1]; exact hk q h1 h2,
    ⟨Nat.le_trans hS.1 (by rw [e1]; exact hz), fun q h1 h2 => by rw [e1, hk q (Nat.lt_of_lt_of_le h1 hS.1) (fun z => h2 (hA q (Nat.lt_of_lt_of_le h1 hS.1) z))]; exact hS.2.1 q h1 h2, fun q hq => by
      rcases List.mem_append.mp hq with h | h
      · exact hS.2.2 q h
      · exact hf _ (hL q h)⟩⟩
theorem vx_calli {S SX : Type} {post : Int32 → S → Prop} {px : SX → Prop} {B : S → State → Prop} {BX : String → SX → State → Prop} {AX : Nat → Prop} (hr : vx_Run p l e R s m args below meth c H locs cells slots mc ms (F0 m pc ls st0) rest (va_Qi post B A1 a) (vx_X px BX AX) free) (hS : va_S A0 H0 H locs) (hA : ∀ q, q < H.size → A1 q → A0 q) (hf : ∀ q, free q → A0 q) (hAX : ∀ q, q < H.size → AX q → A0 q)
    (kx : ∀ (E : String) (ce : Cell) (q9 : Addr) (u : SX) (t : State) (H1 : Heap) (locs1 : List Loc), t.heap = H1 → s.vm.Alike t.vm → px u → BX E u t → H.size ≤ H1.size → (∀ q : Nat, q < H.size → ¬ AX q → H1[q]? = H[q]?) → va_S A0 H0 H1 locs1 → H1[q9]? = some ce → ce.vm = .none → s.vm.findClass E = some ce.cls → vx_W p l e R s m args below meth c H1 locs1 (cells + mc) (slots + ms) Q (F0 m pc ls rest) q9)
    (kk : ∀ (r : Int32) (u : S) (t : State) (H1 : Heap) (locs1 : List Loc), t.heap = H1 → s.vm.Alike t.vm → post r u → B u t → H.size ≤ H1.size → (∀ q : Nat, q < H.size → ¬ A1 q → H1[q]? = H[q]?) → va_S A0 H0 H1 locs1 → W p l e R s m args below meth c H1 locs1 (cells + mc) (slots + ms) Q (F0 m (pc + 3) ls (.int r :: rest))) : W p l e R s m args below meth c H locs cells slots Q (F0 m pc ls st0) := by
  intro T hT X
  rcases hr T hT X with ⟨v, st₀, t, T', L, h0, X', hL, e1, e2, ⟨⟨r, u, hv, hp, hb⟩, hF⟩, st⟩ | ⟨q, st₀, t, T', L, E, ce, h0, X', hL, e1, e2, ⟨u, hp, hb, hF⟩, hce, hcv, hcl, st⟩
  · cases hv
    obtain ⟨k1, k2, k3⟩ := vx_keep h0 e1 hS hA hf hL hF
    obtain ⟨t2, a1, b1⟩ := kk r u t T'.heap (locs ++ L) e1.symm (by rw [← e2]; exact X'.warmed.alike) hp hb k1 k2 k3 T' rfl X'
    exact ⟨t2, st t2 a1, b1⟩
  · obtain ⟨k1, k2, k3⟩ := vx_keep h0 e1 hS hAX hf hL hF
    obtain ⟨t2, a1, b1⟩ := kx E ce q u t T'.heap (locs ++ L) e1.symm (by rw [← e2]; exact X'.warmed.alike) hp hb k1 k2 k3 (by rw [e1]; exact hce) hcv hcl T' rfl X'
    exact ⟨t2, st.trans a1, b1⟩
theorem vx_calll {S SX : Type} {post : Int64 → S → Prop} {px : SX → Prop} {B : S → State → Prop} {BX : String → SX → State → Prop} {AX : Nat → Prop} (hr : vx_Run p l e R s m args below meth c H locs cells slots mc ms (F0 m pc ls st0) rest (va_Ql post B A1 a) (vx_X px BX AX) free) (hS : va_S A0 H0 H locs) (hA : ∀ q, q < H.size → A1 q → A0 q) (hf : ∀ q, free q → A0 q) (hAX : ∀ q, q < H.size → AX q → A0 q)
    (kx : ∀ (E : String) (ce : Cell) (q9 : Addr) (u : SX) (t : State) (H1 : Heap) (locs1 : List Loc), t.heap = H1 → s.vm.Alike t.vm → px u → BX E u t → H.size ≤ H1.size → (∀ q : Nat, q < H.size → ¬ AX q → H1[q]? = H[q]?) → va_S A0 H0 H1 locs1 → H1[q9]? = some ce → ce.vm = .none → s.vm.findClass E = some ce.cls → vx_W p l e R s m args below meth c H1 locs1 (cells + mc) (slots + ms) Q (F0 m pc ls rest) q9)
    (kk : ∀ (r : Int64) (u : S) (t : State) (H1 : Heap) (locs1 : List Loc), t.heap = H1 → s.vm.Alike t.vm → post r u → B u t → H.size ≤ H1.size → (∀ q : Nat, q < H.size → ¬ A1 q → H1[q]? = H[q]?) → va_S A0 H0 H1 locs1 → W p l e R s m args below meth c H1 locs1 (cells + mc) (slots + ms) Q (F0 m (pc + 3) ls (.long r :: rest))) : W p l e R s m args below meth c H locs cells slots Q (F0 m pc ls st0) := by
  intro T hT X
  rcases hr T hT X with ⟨v, st₀, t, T', L, h0, X', hL, e1, e2, ⟨⟨r, u, hv, hp, hb⟩, hF⟩, st⟩ | ⟨q, st₀, t, T', L, E, ce, h0, X', hL, e1, e2, ⟨u, hp, hb, hF⟩, hce, hcv, hcl, st⟩
  · cases hv
    obtain ⟨k1, k2, k3⟩ := vx_keep h0 e1 hS hA hf hL hF
    obtain ⟨t2, a1, b1⟩ := kk r u t T'.heap (locs ++ L) e1.symm (by rw [← e2]; exact X'.warmed.alike) hp hb k1 k2 k3 T' rfl X'
    exact ⟨t2, st t2 a1, b1⟩
  · obtain ⟨k1, k2, k3⟩ := vx_keep h0 e1 hS hAX hf hL hF
    obtain ⟨t2, a1, b1⟩ := kx E ce q u t T'.heap (locs ++ L) e1.symm (by rw [← e2]; exact X'.warmed.alike) hp hb k1 k2 k3 (by rw [e1]; exact hce) hcv hcl T' rfl X'
    exact ⟨t2, st.trans a1, b1⟩
theorem vx_callf {S SX : Type} {post : UInt32 → S → Prop} {px : SX → Prop} {B : S → State → Prop} {BX : String → SX → State → Prop} {AX : Nat → Prop} (hr : vx_Run p l e R s m args below meth c H locs cells slots mc ms (F0 m pc ls st0) rest (va_Qf post B A1 a) (vx_X px BX AX) free) (hS : va_S A0 H0 H locs) (hA : ∀ q, q < H.size → A1 q → A0 q) (hf : ∀ q, free q → A0 q) (hAX : ∀ q, q < H.size → AX q → A0 q)
    (kx : ∀ (E : String) (ce : Cell) (q9 : Addr) (u : SX) (t : State) (H1 : Heap) (locs1 : List Loc), t.heap = H1 → s.vm.Alike t.vm → px u → BX E u t → H.size ≤ H1.size → (∀ q : Nat, q < H.size → ¬ AX q → H1[q]? = H[q]?) → va_S A0 H0 H1 locs1 → H1[q9]? = some ce → ce.vm = .none → s.vm.findClass E = some ce.cls → vx_W p l e R s m args below meth c H1 locs1 (cells + mc) (slots + ms) Q (F0 m pc ls rest) q9)
    (kk : ∀ (r : UInt32) (u : S) (t : State) (H1 : Heap) (locs1 : List Loc), t.heap = H1 → s.vm.Alike t.vm → post r u → B u t → H.size ≤ H1.size → (∀ q : Nat, q < H.size → ¬ A1 q → H1[q]? = H[q]?) → va_S A0 H0 H1 locs1 → W p l e R s m args below meth c H1 locs1 (cells + mc) (slots + ms) Q (F0 m (pc + 3) ls (.float r :: rest))) : W p l e R s m args below meth c H locs cells slots Q (F0 m pc ls st0) := by
  intro T hT X
  rcases hr T hT X with ⟨v, st₀, t, T', L, h0, X', hL, e1, e2, ⟨⟨r, u, hv, hp, hb⟩, hF⟩, st⟩ | ⟨q, st₀, t, T', L, E, ce, h0, X', hL, e1, e2, ⟨u, hp, hb, hF⟩, hce, hcv, hcl, st⟩
  · cases hv
    obtain ⟨k1, k2, k3⟩ := vx_keep h0 e1 hS hA hf hL hF
    obtain ⟨t2, a1, b1⟩ := kk r u t T'.heap (locs ++ L) e1.symm (by rw [← e2]; exact X'.warmed.alike) hp hb k1 k2 k3 T' rfl X'
    exact ⟨t2, st t2 a1, b1⟩
  · obtain ⟨k1, k2, k3⟩ := vx_keep h0 e1 hS hAX hf hL hF
    obtain ⟨t2, a1, b1⟩ := kx E ce q u t T'.heap (locs ++ L) e1.symm (by rw [← e2]; exact X'.warmed.alike) hp hb k1 k2 k3 (by rw [e1]; exact hce) hcv hcl T' rfl X'
    exact ⟨t2, st.trans a1, b1⟩
theorem vx_calld {S SX : Type} {post : UInt64 → S → Prop} {px : SX → Prop} {B : S → State → Prop} {BX : String → SX → State → Prop} {AX : Nat → Prop} (hr : vx_Run p l e R s m args below meth c H locs cells slots mc ms (F0 m pc ls st0) rest (va_Qd post B A1 a) (vx_X px BX AX) free) (hS : va_S A0 H0 H locs) (hA : ∀ q, q < H.size → A1 q → A0 q) (hf : ∀ q, free q → A0 q) (hAX : ∀ q, q < H.size → AX q → A0 q)
    (kx : ∀ (E : String) (ce : Cell) (q9 : Addr) (u : SX) (t : State) (H1 : Heap) (locs1 : List Loc), t.heap = H1 → s.vm.Alike t.vm → px u → BX E u t → H.size ≤ H1.size → (∀ q : Nat, q < H.size → ¬ AX q → H1[q]? = H[q]?) → va_S A0 H0 H1 locs1 → H1[q9]? = some ce → ce.vm = .none → s.vm.findClass E = some ce.cls → vx_W p l e R s m args below meth c H1 locs1 (cells + mc) (slots + ms) Q (F0 m pc ls rest) q9)
    (kk : ∀ (r : UInt64) (u : S) (t : State) (H1 : Heap) (locs1 : List Loc), t.heap = H1 → s.vm.Alike t.vm → post r u → B u t → H.size ≤ H1.size → (∀ q : Nat, q < H.size → ¬ A1 q → H1[q]? = H[q]?) → va_S A0 H0 H1 locs1 → W p l e R s m args below meth c H1 locs1 (cells + mc) (slots + ms) Q (F0 m (pc + 3) ls (.double r :: rest))) : W p l e R s m args below meth c H locs cells slots Q (F0 m pc ls st0) := by
  intro T hT X
  rcases hr T hT X with ⟨v, st₀, t, T', L, h0, X', hL, e1, e2, ⟨⟨r, u, hv, hp, hb⟩, hF⟩, st⟩ | ⟨q, st₀, t, T', L, E, ce, h0, X', hL, e1, e2, ⟨u, hp, hb, hF⟩, hce, hcv, hcl, st⟩
  · cases hv
    obtain ⟨k1, k2, k3⟩ := vx_keep h0 e1 hS hA hf hL hF
    obtain ⟨t2, a1, b1⟩ := kk r u t T'.heap (locs ++ L) e1.symm (by rw [← e2]; exact X'.warmed.alike) hp hb k1 k2 k3 T' rfl X'
    exact ⟨t2, st t2 a1, b1⟩
  · obtain ⟨k1, k2, k3⟩ := vx_keep h0 e1 hS hAX hf hL hF
    obtain ⟨t2, a1, b1⟩ := kx E ce q u t T'.heap (locs ++ L) e1.symm (by rw [← e2]; exact X'.warmed.alike) hp hb k1 k2 k3 (by rw [e1]; exact hce) hcv hcl T' rfl X'
    exact ⟨t2, st.trans a1, b1⟩
theorem vx_callv {S SX : Type} {post : S → Prop} {px : SX → Prop} {B : S → State → Prop} {BX : String → SX → State → Prop} {AX : Nat → Prop} (hr : vx_Run p l e R s m args below meth c H locs cells slots mc ms (F0 m pc ls st0) rest (va_Qv post B A1 a) (vx_X px BX AX) free) (hS : va_S A0 H0 H locs) (hA : ∀ q, q < H.size → A1 q → A0 q) (hf : ∀ q, free q → A0 q) (hAX : ∀ q, q < H.size → AX q → A0 q)
    (kx : ∀ (E : String) (ce : Cell) (q9 : Addr) (u : SX) (t : State) (H1 : Heap) (locs1 : List Loc), t.heap = H1 → s.vm.Alike t.vm → px u → BX E u t → H.size ≤ H1.size → (∀ q : Nat, q < H.size → ¬ AX q → H1[q]? = H[q]?) → va_S A0 H0 H1 locs1 → H1[q9]? = some ce → ce.vm = .none → s.vm.findClass E = some ce.cls → vx_W p l e R s m args below meth c H1 locs1 (cells + mc) (slots + ms) Q (F0 m pc ls rest) q9)
    (kk : ∀ (u : S) (t : State) (H1 : Heap) (locs1 : List Loc), t.heap = H1 → s.vm.Alike t.vm → post u → B u t → H.size ≤ H1.size → (∀ q : Nat, q < H.size → ¬ A1 q → H1[q]? = H[q]?) → va_S A0 H0 H1 locs1 → W p l e R s m args below meth c H1 locs1 (cells + mc) (slots + ms) Q (F0 m (pc + 3) ls (rest))) : W p l e R s m args below meth c H locs cells slots Q (F0 m pc ls st0) := by
  intro T hT X
  rcases hr T hT X with ⟨v, st₀, t, T', L, h0, X', hL, e1, e2, ⟨⟨u, hv, hp, hb⟩, hF⟩, st⟩ | ⟨q, st₀, t, T', L, E, ce, h0, X', hL, e1, e2, ⟨u, hp, hb, hF⟩, hce, hcv, hcl, st⟩
  · cases hv
    obtain ⟨k1, k2, k3⟩ := vx_keep h0 e1 hS hA hf hL hF
    obtain ⟨t2, a1, b1⟩ := kk u t T'.heap (locs ++ L) e1.symm (by rw [← e2]; exact X'.warmed.alike) hp hb k1 k2 k3 T' rfl X'
    exact ⟨t2, st t2 a1, b1⟩
  · obtain ⟨k1, k2, k3⟩ := vx_keep h0 e1 hS hAX hf hL hF
    obtain ⟨t2, a1, b1⟩ := kx E ce q u t T'.heap (locs ++ L) e1.symm (by rw [← e2]; exact X'.warmed.alike) hp hb k1 k2 k3 (by rw [e1]; exact hce) hcv hcl T' rfl X'
    exact ⟨t2, st.trans a1, b1⟩
/-- caught by the row x of this method's table; the rows ahead don't take it -/
theorem vx_catch {own name : String} {E : String} {ce : Cell} {q : Addr} (hown : s.vm.findClass own = some m.cls) (pre : List ExceptionTableEntry) (x : ExceptionTableEntry) (suf : List ExceptionTableEntry) (hsplit : c.exceptionTable.toList = pre ++ x :: suf)
    (hpass : ∀ z ∈ pre, covers z pc = false ∨ (z.catchType ≠ 0 ∧ ∃ nm : String, (Cond.classLink own z.catchType nm).before args s = true ∧ va_Nc E nm s)) (hx : covers x pc = true) (h0 : x.catchType ≠ 0)
    (hlink : (Cond.classLink own x.catchType name).before args s = true) (hcast : (Cond.castable E name).before args s = true) (hcell : H[q]? = some ce) (hv : ce.vm = .none) (hcl : s.vm.findClass E = some ce.cls)
    (kk : W p l e R s m args below meth c H locs cells slots Q (F0 m x.handlerPc ls [.ref q])) : vx_W p l e R s m args below meth c H locs cells slots Q (F0 m pc ls rest) q := by
  intro T hT X
  have hpl : e.platform.magicAccessors = ({} : Platform).magicAccessors := by rw [X.admits.platform]
  obtain ⟨c3, c4, hc3, hc4, hasg⟩ := Cond.castable_spec hcast
  cases Option.some.inj (hc3.symm.trans hcl)
  obtain ⟨c5, hc5, hcl5⟩ := Cond.classLink_spec hown hlink e.platform hpl
  cases Option.some.inj (hc4.symm.trans hc5)
  obtain ⟨vm', X', st⟩ := X.thenCaughtThrough q (g := F0 m pc ls rest) rfl (Steps.refl _) (by rw [hT]; exact hcell) (by rw [hv]; rfl) (by obtain ⟨k9, h9, -⟩ := Vm.findClass_spec hcl; exact ⟨k9, h9⟩) pre x suf hsplit
    (fun z hz => by
      rcases hpass z hz with h | ⟨hz0, nm, hl1, hn1⟩
      · exact Or.inl h
      · obtain ⟨c6, hc6, hcl6⟩ := Cond.classLink_spec hown hl1 e.platform hpl
        obtain ⟨a8, b8, h1, h2, h3⟩ := hn1
        cases Option.some.inj (h1.symm.trans hcl)
        cases Option.some.inj (h2.symm.trans hc6)
        exact Or.inr ⟨hz0, _, hcl6, h3⟩) hx (Or.inr ⟨h0, c4, hcl5, hasg⟩)
  obtain ⟨t, a1, b1⟩ := kk (T.setVm vm') hT X'
  exact ⟨t, st.trans a1, b1⟩
end Rows
section Ends
variable {p : Program} {l : Launch} {e : Env} {R : Room} {s : State} {m : MethodId} {args : Array Value} {below : List Frame} {meth : Method} {c : Code} {H : Heap} {locs : List Loc} {cells slots : Nat} {Q : State → Prop}
variable {mc ms : Nat} {free : Addr → Prop} {A0 A1 : Nat → Prop} {H0 : Heap} {a : Array Value} {ls : Array Slot} {st0 rest : List Value}
variable {Qc : Array Value → State → Outcome → State → Prop} {XC : String → State → State → Prop}
/-- what a body that may throw owes at its end -/
def vx_MQ (below : List Frame) (Qc : Array Value → State → Outcome → State → Prop) (XC : String → State → State → Prop) (a : Array Value) (s : State) (mc ms : Nat) (free : Addr → Prop) : State → Prop := fun t =>
  ∃ o, t.status = .running ∧ Ended t below o ∧ vx_Q Qc XC mc ms free a s o t
theorem vx_ret {g : JFrame} {mc ms : Nat} (k : W p l e R s m args below meth c H locs cells slots (MQ below Qc args s mc ms free) g) : W p l e R s m args below meth c H locs cells slots (vx_MQ below Qc XC args s mc ms free) g := by
  intro T hT X
  obtain ⟨t, a1, o, b1, b2, b3, b4⟩ := k T hT X
  exact ⟨t, a1, o, b1, b2, Or.inl ⟨b3, b4⟩⟩
/-- not caught here: it goes on to the caller -/
theorem vx_widen {g : JFrame} {q : Addr} {k n : Nat} (h1 : cells ≤ k) (h2 : slots ≤ n) (kk : vx_W p l e R s m args below meth c H locs k n Q g q) : vx_W p l e R s m args below meth c H locs cells slots Q g q := fun T hT X => kk T hT (stand_widen X h1 h2)
theorem vx_out {pc : Nat} {E : String} {ce : Cell} {q : Addr} {mc ms : Nat} (hout : ∀ x ∈ c.exceptionTable.toList, covers x pc = false) (hlocks : meth.locks = false) (hcell : H[q]? = some ce) (hv : ce.vm = .none) (hcl : s.vm.findClass E = some ce.cls)
    (hx : ∀ t : State, t.heap = H → s.vm.Alike t.vm → XC E s t) (hf : ∀ z ∈ locs, free z.base) (hc : cells ≤ mc) (hs : slots ≤ ms) :
    vx_W p l e R s m args below meth c H locs cells slots (vx_MQ below Qc XC args s mc ms free) (F0 m pc ls rest) q := by
  intro T hT X
  obtain ⟨st1, hrun, hend, hW, hsm⟩ := X.leaveThrown q (g := F0 m pc ls rest) rfl rfl rfl hout hlocks
  have hcell9 : (T.setFrames (.throwing q :: below)).heap[q]? = some ce := by
    show T.heap[q]? = some ce
    rw [hT]; exact hcell
  exact ⟨_, st1, .threw q, hrun, hend, Or.inr ⟨q, rfl, E, ce, locs, hx _ hT hW.alike, hcell9, hv, hcl, hW, hsm.mono hc hs, hf⟩⟩
theorem vx_frame {U : State} {k n : Nat} (h : s.sameButNew ({ U with vm := s.vm } : State) locs k n) : s.heap.size ≤ U.heap.size ∧ ∀ q : Nat, q < s.heap.size → (∀ z ∈ locs, z.base ≠ q) → U.heap[q]? = s.heap[q]? := by
  obtain ⟨-, h2, -, -, -, h6⟩ := h
  refine ⟨h2, fun q hq hz => ?_⟩
  obtain ⟨c9, e1, e2, e3, e4⟩ := h6 q _ (Array.getElem?_eq_getElem hq)
  have hs : c9.slots = (s.heap[q]).slots := Array.ext_getElem? fun i => e4 i fun hm => hz _ hm rfl
  have h9 : c9 = s.heap[q] := by
    rw [hs] at e2
    exact e2
  have e5 : U.heap[q]? = some c9 := e1
  rw [e5, h9, Array.getElem?_eq_getElem hq]
/-- the words of a throw but the four that speak of the heap -/
def vx_no (w : Cond) : Bool := decide (w ≠ .isRef (.static Bundle.tN "UNASSIGNED_STACK" Bundle.steD)) && decide (w ≠ .isRef (.static Bundle.tN "SUPPRESSED_SENTINEL" Bundle.listD)) && decide (w ≠ .laysStatic Bundle.tN "UNASSIGNED_STACK" Bundle.steD) && decide (w ≠ .laysStatic Bundle.tN "SUPPRESSED_SENTINEL" Bundle.listD)
def vx_at0 (own : String) (ic : Nat) (X : String) (names : List String) : List Cond := (Bundle.ownAtoms0 own ic X names).filter vx_no
def vx_atS (own : String) (ic : Nat) (X : String) (names : List String) : List Cond := (Bundle.ownAtoms own ic X names).filter vx_no
/-- a word that the tables alone decide, or a good one -/
def vx_ot (w : Cond) : Bool := w.onTables || goodWord w
theorem vx_ot_at {args a' : Array Value} {s U : State} {w : Cond} (hW : s.WarmedH U.vm) (hvm : s.vm = U.vm) (hg : vx_ot w = true) (h : w.before args s = true) : w.before a' U = true := by
  simp only [vx_ot, Bool.or_eq_true] at hg
  rcases hg with hg | hg
  · exact va_tabs hg hvm h
  · exact word_at hW (good_of_word hg) h
/-- a list's words: the good ones out of the method's own list, the others by premises of their own -/
theorem vx_hat {args : Array Value} {s : State} {L B : List Cond} (h1 : ∀ w ∈ L.filter goodWord, w.before args s = true) (h2 : ∀ w ∈ L.filter (fun w => !goodWord w), w ∈ B) (h3 : ∀ w ∈ B, w.before args s = true) : ∀ w ∈ L, w.before args s = true := by
  intro w hw
  by_cases g : goodWord w = true
  · exact h1 w (List.mem_filter.mpr ⟨hw, g⟩)
  · refine h3 w (h2 w (List.mem_filter.mpr ⟨hw, ?_⟩))
    show (!goodWord w) = true
    cases hgw : goodWord w
    · rfl
    · exact absurd hgw g
theorem vx_c {args : Array Value} {s : State} {w : Cond} {B : List Cond} (h : w.before args s = true) (t : ∀ w ∈ B, w.before args s = true) : ∀ w' ∈ w :: B, w'.before args s = true := fun w' h' => (List.mem_cons.mp h').elim (fun e => by rw [e]; exact h) (t w')
theorem vx_n {args : Array Value} {s : State} : ∀ w ∈ ([] : List Cond), w.before args s = true := fun _ h => nomatch h
theorem vx_own {args : Array Value} {s : State} {L : List Cond} (h1 : ∀ w ∈ L.filter vx_no, w.before args s = true)
    (hU : (Cond.isRef (.static Bundle.tN "UNASSIGNED_STACK" Bundle.steD)).before args s = true) (hN : (Cond.isRef (.static Bundle.tN "SUPPRESSED_SENTINEL" Bundle.listD)).before args s = true)
    (lU : (Cond.laysStatic Bundle.tN "UNASSIGNED_STACK" Bundle.steD).before args s = true) (lN : (Cond.laysStatic Bundle.tN "SUPPRESSED_SENTINEL" Bundle.listD).before args s = true) : ∀ w ∈ L, w.before args s = true := by
  intro w hw
  by_cases e1 : w = .isRef (.static Bundle.tN "UNASSIGNED_STACK" Bundle.steD)
  · rw [e1]; exact hU
  · by_cases e2 : w = .isRef (.static Bundle.tN "SUPPRESSED_SENTINEL" Bundle.listD)
    · rw [e2]; exact hN
    · by_cases e3 : w = .laysStatic Bundle.tN "UNASSIGNED_STACK" Bundle.steD
      · rw [e3]; exact lU
      · by_cases e4 : w = .laysStatic Bundle.tN "SUPPRESSED_SENTINEL" Bundle.listD
        · rw [e4]; exact lN
        · exact h1 w (List.mem_filter.mpr ⟨hw, by unfold vx_no; rw [decide_eq_true e1, decide_eq_true e2, decide_eq_true e3, decide_eq_true e4]; rfl⟩)
/-- where a static field lies, its class's statics cell in H -/
def vx_L (C n d : String) (A : Nat → Prop) (U : State) (H : Heap) : Prop := ∃ (c : ClassId) (k : Class) (i : Nat) (f : Field) (a : Nat) (cell : Cell), U.vm.findClass C = some c ∧ U.fieldFound? C n d = some (c, k, i, f) ∧ f.isStatic = true ∧ k.statics = some a ∧ H[a]? = some cell ∧ cell.vm.isStatics = true ∧ cell.cls = c ∧ f.slot < cell.slots.size ∧ k.staticTypes[f.slot]? = some f.type ∧ ¬ A a
theorem vx_L.moved {C n d : String} {A : Nat → Prop} {u U : State} {H : Heap} (hvm : u.vm.Alike U.vm) (h : vx_L C n d A u H) : vx_L C n d A U H := by
  obtain ⟨c, k, i, f, a, cell, h1, h2, h3, h4, h5, h6, h7, h8, h9, h10⟩ := h
  obtain ⟨k', hi', he⟩ := State.fieldFound?_setVm hvm h2
  exact ⟨c, k', i, f, a, cell, by rw [hvm.findClass]; exact h1, hi', h3, by rw [he]; exact h4, h5, h6, h7, h8, by rw [he]; exact h9, h10⟩
theorem vx_L.kept {C n d : String} {A : Nat → Prop} {U : State} {H H1 : Heap} (h : vx_L C n d A U H) (hq : ∀ a : Nat, a < H.size → ¬ A a → H1[a]? = H[a]?) : vx_L C n d A U H1 := by
  obtain ⟨c, k, i, f, a, cell, h1, h2, h3, h4, h5, h6, h7, h8, h9, h10⟩ := h
  exact ⟨c, k, i, f, a, cell, h1, h2, h3, h4, by rw [hq a (Array.getElem?_eq_some_iff.mp h5).1 h10]; exact h5, h6, h7, h8, h9, h10⟩
theorem vx_L.narrow {C n d : String} {A B : Nat → Prop} {U : State} {H : Heap} (h : vx_L C n d A U H) (hAB : ∀ q, B q → A q) : vx_L C n d B U H := by
  obtain ⟨c, k, i, f, a, cell, h1, h2, h3, h4, h5, h6, h7, h8, h9, h10⟩ := h
  exact ⟨c, k, i, f, a, cell, h1, h2, h3, h4, h5, h6, h7, h8, h9, fun z => h10 (hAB _ z)⟩
theorem vx_L.word {C n d : String} {A : Nat → Prop} {s : State} {args : Array Value} (h : vx_L C n d A s s.heap) : (Cond.laysStatic C n d).before args s = true := by
  obtain ⟨c, k, i, f, a, cell, h1, h2, h3, h4, h5, h6, h7, h8, h9, -⟩ := h
  show (Cond.laysStatic C n d).holds args s none s [] = true
  exact Cond.laysStatic_of h1 h2 h3 h4 h5 h6 h7 h8 h9
/-- .. and what it holds: null or some reference -/
def vx_Zq (C n d : String) (A : Nat → Prop) (U : State) (H : Heap) : Prop := va_Zq C n d A U H ∧ vx_L C n d A U H
theorem vx_Zq.moved {C n d : String} {A : Nat → Prop} {u U : State} {H : Heap} (hvm : u.vm.Alike U.vm) (h : vx_Zq C n d A u H) : vx_Zq C n d A U H := ⟨va_Zq.moved hvm h.1, vx_L.moved hvm h.2⟩
theorem vx_Zq.kept {C n d : String} {A : Nat → Prop} {U : State} {H H1 : Heap} (h : vx_Zq C n d A U H) (hq : ∀ a : Nat, a < H.size → ¬ A a → H1[a]? = H[a]?) : vx_Zq C n d A U H1 := ⟨va_Zq.kept h.1 hq, vx_L.kept h.2 hq⟩
theorem vx_Zq.narrow {C n d : String} {A B : Nat → Prop} {U : State} {H : Heap} (h : vx_Zq C n d A U H) (hAB : ∀ q, B q → A q) : vx_Zq C n d B U H := ⟨va_Zq.narrow h.1 hAB, vx_L.narrow h.2 hAB⟩
theorem vx_Zqof {args : Array Value} {s : State} {C n d : String} {A : Nat → Prop} (hl : (Cond.laysStatic C n d).before args s = true) (hini : (Cond.initialized C).before args s = true) (h : (Cond.isRef (.static C n d)).before args s = true) (hA : ∀ a : Nat, a < s.heap.size → ¬ A a) : vx_Zq C n d A s s.heap := by
  refine ⟨va_Zqof hl hini h hA, ?_⟩
  obtain ⟨c, k, i, f, a, cell, h1, h2, h3, h4, h5, h6, h7, h8, h9⟩ := Cond.laysStatic_spec hl
  exact ⟨c, k, i, f, a, cell, h1, h2, h3, h4, h5, h6, h7, h8, h9, hA a (Array.getElem?_eq_some_iff.mp h5).1⟩
theorem vx_isRef {C n d : String} {v : Value} {A : Nat → Prop} {s : State} {args : Array Value} (h : va_Z C n d v A s s.heap) (hv : v.isRef = true) : (Cond.isRef (.static C n d)).before args s = true := by
  obtain ⟨cf, kf, fi, f, a, cell, h1, h2, h3, h4, h5, h6, h7, -⟩ := h
  have he : (Term.static C n d).eval args s none [] s = some v := by
    simp [Term.eval, State.fieldNamed?, h1, h2, h4, h5, h6, h7]
  simp only [Cond.before, Cond.holds, Cond.value, he]
  cases v <;> simp_all [Value.isRef]
theorem vx_isRefq {C n d : String} {A : Nat → Prop} {s : State} {args : Array Value} (h : va_Zq C n d A s s.heap) : (Cond.isRef (.static C n d)).before args s = true := by
  rcases h with h | ⟨t, h⟩
  · exact vx_isRef h rfl
  · exact vx_isRef h rfl
/-- the same frame, seen from here: as if the method were called anew in this heap -/
theorem vx_rebase {T : State} (X : Stand p l e R s m args below meth c T locs cells slots) {R' : Room} (hf : R'.frames ≤ R.frames) (hl : R'.locals ≤ R.locals) (hc : cells + R'.cells ≤ R.cells) (hs : slots + R'.slots ≤ R.slots) :
    Stand p l e R' ((T.setVm s.vm).setFrames (.invoking m args :: below)) m args below meth c T [] 0 0 := by
  have htop : (T.setVm s.vm).topJava?.isSome := X.here.top
  have hF : ((T.setVm s.vm).setFrames (.invoking m args :: below)).frames = .invoking m args :: below := State.frames_setFrames _ (State.cur_lt_of_top htop)
  obtain ⟨g₀, hg0⟩ := Option.isSome_iff_exists.mp htop
  obtain ⟨r, hr⟩ := State.topJava?_eq_some.mp hg0
  have hl9 : e.platform.stackLimits (T.setVm s.vm).me = e.platform.stackLimits s.me := X.limits
  have hb9 : (T.setVm s.vm).me.stackBytes = s.me.stackBytes := X.bytes
  refine ⟨X.admits, X.cas, X.clock, hF, ?_, X.hears, X.method, X.code, X.here, X.tail, X.warmed, ?_, ?_, ?_⟩
  · have h := X.room
    have hU : ((T.setVm s.vm).setFrames (.invoking m args :: below)).localsInUse = s.localsInUse := by
      rw [State.localsInUse_invoking hF (meth := meth) (c := c) X.method X.code, State.localsInUse_invoking X.frames X.method X.code]
    simp only [State.hasRoom, Bool.and_eq_true, decide_eq_true_eq] at h ⊢
    obtain ⟨⟨⟨⟨h1, h2, h3, h4, h5, h6⟩, h7⟩, h8⟩, h9⟩ := h
    rw [X.frames, List.length_cons] at h2 h3
    have q1 := X.heapSize
    have q2 := X.used
    simp only [hF, hU, List.length_cons, State.stackLimits_setFrames, State.stackBytes_setFrames, hl9, hb9]
    refine ⟨⟨⟨⟨by omega, by omega, by omega, by omega, by omega, h6⟩, ?_⟩, ?_⟩, X.book⟩
    · show T.heap.size + R'.cells ≤ e.platform.maxCells
      omega
    · show T.slotsUsed + R'.slots ≤ e.platform.maxSlots
      omega
  · rw [State.stackLimits_setFrames]; rfl
  · rw [State.stackBytes_setFrames]; rfl
  · refine ⟨?_, Nat.le_refl _, Nat.le_refl _, ?_, ?_, fun a c9 h9 => ⟨c9, h9, rfl, rfl, fun _ _ => rfl⟩⟩
    · obtain ⟨t, ht, -⟩ := State.frames_cons hr
      show T.setVm s.vm = { ((T.setVm s.vm).setFrames (.invoking m args :: below)).setFrames (T.setVm s.vm).frames with heap := T.heap, slotsUsed := T.slotsUsed }
      rw [State.setFrames_setFrames, State.setFrames_self ht]
      rfl
    · show T.slotsUsed = T.slotsUsed + ((T.heap.toList.drop T.heap.size).map (·.slots.size)).sum
      rw [List.drop_eq_nil_of_le (Nat.le_of_eq Array.length_toList)]
      rfl
    · show ((T.heap.toList.drop T.heap.size).map (·.slots.size)).sum ≤ 0
      rw [List.drop_eq_nil_of_le (Nat.le_of_eq Array.length_toList)]
      exact Nat.le_refl _
/-- 'throw new E()': new; dup; invokespecial; athrow -/
theorem vx_throw0 {cc : ByteArray} {pc : Nat} (hexec : p.tables.exec = Jvm.exec) (hb : c.code = cc) (hl : l.stackTraces = false) {own cls : String} {names : List String} {ik ic mc ms : Nat} {A : Nat → Prop}
    (hown : s.vm.findClass own = some m.cls) (hcls : Bundle.fit cls = true) (hnames : ∀ n ∈ names, Bundle.fit n = true)
    (hk : (Cond.classLink own ik cls).before args s = true) (hini : (Cond.initialized cls).before args s = true) (hat : ∀ w ∈ vx_at0 own ic cls names, w.before args s = true)
    (hgood : ∀ w ∈ Cond.classLink own ik cls :: Cond.initialized cls :: vx_at0 own ic cls names, vx_ot w = true)
    (hU : vx_Zq Bundle.tN "UNASSIGNED_STACK" Bundle.steD A s s.heap) (hN : vx_Zq Bundle.tN "SUPPRESSED_SENTINEL" Bundle.listD A s s.heap) (hS : va_S A s.heap H locs) (hsize : ls.size = c.maxLocals)
    (d0 : decode cc pc = .ok (.new ik, 3)) (d3 : decode cc (pc + 3) = .ok (.dup, 1)) (d4 : decode cc (pc + 4) = .ok (.invokespecial ic, 3)) (d7 : decode cc (pc + 7) = .ok (.athrow, 1))
    (hout : ∀ x ∈ c.exceptionTable.toList, covers x (pc + 7) = false)
    (hRframes : names.length + 3 < R.frames) (hRlocals : (rest.map fun v => v.category).sum + (13 * (names.length + 1) + 42) ≤ R.locals) (hRcells : cells + 1 ≤ R.cells) (hRslots : slots + 6 ≤ R.slots) (hlocks : meth.locks = false)
    (hx : ∀ t : State, s.vm.Alike t.vm → H.size ≤ t.heap.size → (∀ q : Nat, q < H.size → t.heap[q]? = H[q]?) → XC cls s t)
    (hf : ∀ z ∈ locs, free z.base) (hc : cells + 1 ≤ mc) (hs : slots + 6 ≤ ms) :
    W p l e R s m args below meth c H locs cells slots (vx_MQ below Qc XC args s mc ms free) (F0 m pc ls rest) := by
  intro T hT X
  have htr : e.platform.stackTraces = false := (show e.platform.stackTraces = l.stackTraces by rw [X.admits.platform]).trans hl
  have Y := vx_rebase X (R' := { frames := R.frames, locals := R.locals, cells := 1, slots := 6 }) (Nat.le_refl _) (Nat.le_refl _) hRcells hRslots
  obtain ⟨s', hA⟩ : ∃ z, z = (T.setVm s.vm).setFrames (.invoking m args :: below) := ⟨_, rfl⟩
  rw [← hA] at Y
  have hvm : s'.vm = s.vm := by rw [hA]; rfl
  have hhp : s'.heap = H := by rw [hA]; exact hT
  have hW0 : s.WarmedH s'.vm := by rw [hvm]; exact State.WarmedH.refl s
  have hat' : ∀ w ∈ vx_at0 own ic cls names, w.before args s' = true := fun w hw => vx_ot_at hW0 hvm.symm (hgood w (List.mem_cons_of_mem _ (List.mem_cons_of_mem _ hw))) (hat w hw)
  have hk' : (Cond.classLink own ik cls).before args s' = true := vx_ot_at hW0 hvm.symm (hgood _ List.mem_cons_self) hk
  have hini' : (Cond.initialized cls).before args s' = true := vx_ot_at hW0 hvm.symm (hgood _ (List.mem_cons_of_mem _ List.mem_cons_self)) hini
  have hU' : vx_Zq Bundle.tN "UNASSIGNED_STACK" Bundle.steD A s' s'.heap := by rw [hhp]; exact vx_Zq.moved hW0.alike (hU.kept hS.2.1)
  have hN' : vx_Zq Bundle.tN "SUPPRESSED_SENTINEL" Bundle.listD A s' s'.heap := by rw [hhp]; exact vx_Zq.moved hW0.alike (hN.kept hS.2.1)
  have h : ∀ w ∈ Bundle.ownAtoms0 own ic cls names, w.before args s' = true := vx_own hat' (vx_isRefq hU'.1) (vx_isRefq hN'.1) hU'.2.word hN'.2.word
  have hown' : s'.vm.findClass own = some m.cls := by rw [hvm]; exact hown
  have hins : (Cond.instantiable cls 6).before args s' = true := h _ (by simp [Bundle.ownAtoms0])
  obtain ⟨vm₁, cX, kX, hfX, hkX, -, -, X₁, st1⟩ := Y.newCold hexec (own := own) (C := cls) (index := ik) (n := 6) hown' hk' hins hini'
    (g := F0 m pc ls rest) rfl (by rw [hb]; exact d0) (Nat.le_refl _) (Nat.le_refl _)
  generalize hT1 : (T.setVm vm₁).pushCell { cls := cX, slots := kX.instanceTypes.map defaultValue, vm := .none } = T1 at X₁ st1
  have hcat : (Value.ref T.heap.size).category = 1 := rfl
  have hcellA : T1.heap[T.heap.size]? = some (freshCell cX kX) := by rw [← hT1]; exact State.heap_pushCell_size _ _
  have d3' : decode c.code (pc + 3) = .ok (.dup, 1) := by rw [hb]; exact d3
  obtain ⟨U, hsteps, hrun, hend, hW, hsame, ce, hce, hO⟩ := X₁.ctorThrow0 hexec htr (own := own) (cls := cls) (names := names) (ic := ic) hown' hcls hnames h (fun x hx => nomatch hx) hfX hkX hcellA (by rw [hhp, hT]; exact Nat.le_refl _)
    (g := { method := m, pc := pc + 4, locals := ls, stack := .ref T.heap.size :: .ref T.heap.size :: rest, locked := none }) rfl hsize rfl rfl (rest := rest) rfl
    (by rw [hb]; exact d4) (by rw [hb]; exact d7) hout hRframes (by simp only [List.map_cons, List.sum_cons, hcat]; omega) hlocks
  obtain ⟨f1, f2⟩ := vx_frame hsame
  rw [hhp] at f1 f2
  have hWs : s.WarmedH U.vm := State.WarmedH.trans hW0 hW
  have hcl : s.vm.findClass cls = some ce.cls := by
    have h9 := hO.cls
    rw [hvm] at h9
    exact h9
  have hall : s.sameButNew ({ U with vm := s.vm } : State) locs mc ms := by
    subst hA
    obtain ⟨e1, e2⟩ := hsame
    rw [State.setFrames_setFrames] at e1
    have h2 : (T.setVm s.vm).sameButNew ({ U with vm := s.vm } : State) [] (0 + 1) (0 + 6) := ⟨e1, e2⟩
    have h3 := X.same.trans h2
    rw [List.append_nil] at h3
    exact h3.mono hc hs
  refine ⟨U, ?_, .threw T.heap.size, hrun, hend, Or.inr ⟨T.heap.size, rfl, cls, ce, locs, hx U hWs.alike f1 (fun q hq => f2 q hq (fun z hz => nomatch hz)), hce, hO.vm, hcl, hWs, hall, hf⟩⟩
  refine st1 _ ?_
  show Steps p.tables e below (T1.setTop { method := m, pc := pc + 3, locals := ls, stack := .ref T.heap.size :: rest, locked := none }) _
  jvm_step X₁.here [X₁.here.top, hexec, d3', Value.category]
  exact hsteps
/-- 'throw new E("text")': new; dup; ldc; invokespecial; athrow -/
theorem vx_throwS {cc : ByteArray} {pc : Nat} (hexec : p.tables.exec = Jvm.exec) (hb : c.code = cc) (hl : l.stackTraces = false) {own cls text : String} {names : List String} {ik is ic mc ms sa : Nat} {A : Nat → Prop}
    (hown : s.vm.findClass own = some m.cls) (hcls : Bundle.fit cls = true) (hnames : ∀ n ∈ names, Bundle.fit n = true)
    (hk : (Cond.classLink own ik cls).before args s = true) (hini : (Cond.initialized cls).before args s = true) (hstr : vk_R own is text sa s) (hat : ∀ w ∈ vx_atS own ic cls names, w.before args s = true)
    (hgood : ∀ w ∈ Cond.classLink own ik cls :: Cond.initialized cls :: vx_atS own ic cls names, vx_ot w = true)
    (hU : vx_Zq Bundle.tN "UNASSIGNED_STACK" Bundle.steD A s s.heap) (hN : vx_Zq Bundle.tN "SUPPRESSED_SENTINEL" Bundle.listD A s s.heap) (hS : va_S A s.heap H locs) (hsize : ls.size = c.maxLocals)
    (d0 : decode cc pc = .ok (.new ik, 3)) (d3 : decode cc (pc + 3) = .ok (.dup, 1)) (d4 : decode cc (pc + 4) = .ok (.ldc is, 2)) (d6 : decode cc (pc + 6) = .ok (.invokespecial ic, 3)) (d9 : decode cc (pc + 9) = .ok (.athrow, 1))
    (hout : ∀ x ∈ c.exceptionTable.toList, covers x (pc + 9) = false)
    (hRframes : names.length + 3 < R.frames) (hRlocals : (rest.map fun v => v.category).sum + (13 * (names.length + 1) + 43) ≤ R.locals) (hRcells : cells + 1 ≤ R.cells) (hRslots : slots + 6 ≤ R.slots) (hlocks : meth.locks = false)
    (hx : ∀ t : State, s.vm.Alike t.vm → H.size ≤ t.heap.size → (∀ q : Nat, q < H.size → t.heap[q]? = H[q]?) → XC cls s t)
    (hf : ∀ z ∈ locs, free z.base) (hc : cells + 1 ≤ mc) (hs : slots + 6 ≤ ms) :
    W p l e R s m args below meth c H locs cells slots (vx_MQ below Qc XC args s mc ms free) (F0 m pc ls rest) := by
  intro T hT X
  have htr : e.platform.stackTraces = false := (show e.platform.stackTraces = l.stackTraces by rw [X.admits.platform]).trans hl
  have Y := vx_rebase X (R' := { frames := R.frames, locals := R.locals, cells := 1, slots := 6 }) (Nat.le_refl _) (Nat.le_refl _) hRcells hRslots
  obtain ⟨s', hA⟩ : ∃ z, z = (T.setVm s.vm).setFrames (.invoking m args :: below) := ⟨_, rfl⟩
  rw [← hA] at Y
  have hvm : s'.vm = s.vm := by rw [hA]; rfl
  have hhp : s'.heap = H := by rw [hA]; exact hT
  have hW0 : s.WarmedH s'.vm := by rw [hvm]; exact State.WarmedH.refl s
  have hat' : ∀ w ∈ vx_atS own ic cls names, w.before args s' = true := fun w hw => vx_ot_at hW0 hvm.symm (hgood w (List.mem_cons_of_mem _ (List.mem_cons_of_mem _ hw))) (hat w hw)
  have hk' : (Cond.classLink own ik cls).before args s' = true := vx_ot_at hW0 hvm.symm (hgood _ List.mem_cons_self) hk
  have hini' : (Cond.initialized cls).before args s' = true := vx_ot_at hW0 hvm.symm (hgood _ (List.mem_cons_of_mem _ List.mem_cons_self)) hini
  have hU' : vx_Zq Bundle.tN "UNASSIGNED_STACK" Bundle.steD A s' s'.heap := by rw [hhp]; exact vx_Zq.moved hW0.alike (hU.kept hS.2.1)
  have hN' : vx_Zq Bundle.tN "SUPPRESSED_SENTINEL" Bundle.listD A s' s'.heap := by rw [hhp]; exact vx_Zq.moved hW0.alike (hN.kept hS.2.1)
  have h : ∀ w ∈ Bundle.ownAtoms own ic cls names, w.before args s' = true := vx_own hat' (vx_isRefq hU'.1) (vx_isRefq hN'.1) hU'.2.word hN'.2.word
  have hown' : s'.vm.findClass own = some m.cls := by rw [hvm]; exact hown
  have hins : (Cond.instantiable cls 6).before args s' = true := h _ (by simp [Bundle.ownAtoms])
  obtain ⟨vm₁, cX, kX, hfX, hkX, -, -, X₁, st1⟩ := Y.newCold hexec (own := own) (C := cls) (index := ik) (n := 6) hown' hk' hins hini'
    (g := F0 m pc ls rest) rfl (by rw [hb]; exact d0) (Nat.le_refl _) (Nat.le_refl _)
  generalize hT1 : (T.setVm vm₁).pushCell { cls := cX, slots := kX.instanceTypes.map defaultValue, vm := .none } = T1 at X₁ st1
  have hcat : (Value.ref T.heap.size).category = 1 := rfl
  have hcellA : T1.heap[T.heap.size]? = some (freshCell cX kX) := by rw [← hT1]; exact State.heap_pushCell_size _ _
  have d3' : decode c.code (pc + 3) = .ok (.dup, 1) := by rw [hb]; exact d3
  have d4' : decode c.code (pc + 4) = .ok (.ldc is, 2) := by rw [hb]; exact d4
  have hstr' : vk_R own is text sa s' := vk_R.warm hW0 hstr
  obtain ⟨U, hsteps, hrun, hend, hW, hsame, ce, hce, hO⟩ := X₁.ctorThrowS hexec htr (own := own) (cls := cls) (names := names) (ic := ic) hown' hcls hnames h (fun x hx => nomatch hx) hfX hkX hcellA (by rw [hhp, hT]; exact Nat.le_refl _) (msg := .ref sa) rfl
    (g := { method := m, pc := pc + 6, locals := ls, stack := .ref sa :: .ref T.heap.size :: .ref T.heap.size :: rest, locked := none }) rfl hsize rfl rfl (rest := rest) rfl
    (by rw [hb]; exact d6) (by rw [hb]; exact d9) hout hRframes (by simp only [List.map_cons, List.sum_cons, hcat]; omega) hlocks
  obtain ⟨f1, f2⟩ := vx_frame hsame
  rw [hhp] at f1 f2
  have hWs : s.WarmedH U.vm := State.WarmedH.trans hW0 hW
  have hcl : s.vm.findClass cls = some ce.cls := by
    have h9 := hO.cls
    rw [hvm] at h9
    exact h9
  have hall : s.sameButNew ({ U with vm := s.vm } : State) locs mc ms := by
    subst hA
    obtain ⟨e1, e2⟩ := hsame
    rw [State.setFrames_setFrames] at e1
    have h2 : (T.setVm s.vm).sameButNew ({ U with vm := s.vm } : State) [] (0 + 1) (0 + 6) := ⟨e1, e2⟩
    have h3 := X.same.trans h2
    rw [List.append_nil] at h3
    exact h3.mono hc hs
  refine ⟨U, ?_, .threw T.heap.size, hrun, hend, Or.inr ⟨T.heap.size, rfl, cls, ce, locs, hx U hWs.alike f1 (fun q hq => f2 q hq (fun z hz => nomatch hz)), hce, hO.vm, hcl, hWs, hall, hf⟩⟩
  refine st1 _ ?_
  show Steps p.tables e below (T1.setTop { method := m, pc := pc + 3, locals := ls, stack := .ref T.heap.size :: rest, locked := none }) _
  jvm_step X₁.here [X₁.here.top, hexec, d3', Value.category]
  exact X₁.ldcString hexec (own := own) (text := text) (index := is) (a := sa) hown' hstr'.1 hstr'.2
    (g := { method := m, pc := pc + 4, locals := ls, stack := .ref T.heap.size :: .ref T.heap.size :: rest, locked := none }) rfl d4' _ hsteps
/-- 'throw new E("text")', the text by a wide index -/
theorem vx_throwSW {cc : ByteArray} {pc : Nat} (hexec : p.tables.exec = Jvm.exec) (hb : c.code = cc) (hl : l.stackTraces = false) {own cls text : String} {names : List String} {ik is ic mc ms sa : Nat} {A : Nat → Prop}
    (hown : s.vm.findClass own = some m.cls) (hcls : Bundle.fit cls = true) (hnames : ∀ n ∈ names, Bundle.fit n = true)
    (hk : (Cond.classLink own ik cls).before args s = true) (hini : (Cond.initialized cls).before args s = true) (hstr : vk_R own is text sa s) (hat : ∀ w ∈ vx_atS own ic cls names, w.before args s = true)
    (hgood : ∀ w ∈ Cond.classLink own ik cls :: Cond.initialized cls :: vx_atS own ic cls names, vx_ot w = true)
    (hU : vx_Zq Bundle.tN "UNASSIGNED_STACK" Bundle.steD A s s.heap) (hN : vx_Zq Bundle.tN "SUPPRESSED_SENTINEL" Bundle.listD A s s.heap) (hS : va_S A s.heap H locs) (hsize : ls.size = c.maxLocals)
    (d0 : decode cc pc = .ok (.new ik, 3)) (d3 : decode cc (pc + 3) = .ok (.dup, 1)) (d4 : decode cc (pc + 4) = .ok (.ldc_w is, 3)) (d7 : decode cc (pc + 7) = .ok (.invokespecial ic, 3)) (d10 : decode cc (pc + 10) = .ok (.athrow, 1))
    (hout : ∀ x ∈ c.exceptionTable.toList, covers x (pc + 10) = false)
    (hRframes : names.length + 3 < R.frames) (hRlocals : (rest.map fun v => v.category).sum + (13 * (names.length + 1) + 43) ≤ R.locals) (hRcells : cells + 1 ≤ R.cells) (hRslots : slots + 6 ≤ R.slots) (hlocks : meth.locks = false)
    (hx : ∀ t : State, s.vm.Alike t.vm → H.size ≤ t.heap.size → (∀ q : Nat, q < H.size → t.heap[q]? = H[q]?) → XC cls s t)
    (hf : ∀ z ∈ locs, free z.base) (hc : cells + 1 ≤ mc) (hs : slots + 6 ≤ ms) :
    W p l e R s m args below meth c H locs cells slots (vx_MQ below Qc XC args s mc ms free) (F0 m pc ls rest) := by
  intro T hT X
  have htr : e.platform.stackTraces = false := (show e.platform.stackTraces = l.stackTraces by rw [X.admits.platform]).trans hl
  have Y := vx_rebase X (R' := { frames := R.frames, locals := R.locals, cells := 1, slots := 6 }) (Nat.le_refl _) (Nat.le_refl _) hRcells hRslots
  obtain ⟨s', hA⟩ : ∃ z, z = (T.setVm s.vm).setFrames (.invoking m args :: below) := ⟨_, rfl⟩
  rw [← hA] at Y
  have hvm : s'.vm = s.vm := by rw [hA]; rfl
  have hhp : s'.heap = H := by rw [hA]; exact hT
  have hW0 : s.WarmedH s'.vm := by rw [hvm]; exact State.WarmedH.refl s
  have hat' : ∀ w ∈ vx_atS own ic cls names, w.before args s' = true := fun w hw => vx_ot_at hW0 hvm.symm (hgood w (List.mem_cons_of_mem _ (List.mem_cons_of_mem _ hw))) (hat w hw)
  have hk' : (Cond.classLink own ik cls).before args s' = true := vx_ot_at hW0 hvm.symm (hgood _ List.mem_cons_self) hk
  have hini' : (Cond.initialized cls).before args s' = true := vx_ot_at hW0 hvm.symm (hgood _ (List.mem_cons_of_mem _ List.mem_cons_self)) hini
  have hU' : vx_Zq Bundle.tN "UNASSIGNED_STACK" Bundle.steD A s' s'.heap := by rw [hhp]; exact vx_Zq.moved hW0.alike (hU.kept hS.2.1)
  have hN' : vx_Zq Bundle.tN "SUPPRESSED_SENTINEL" Bundle.listD A s' s'.heap := by rw [hhp]; exact vx_Zq.moved hW0.alike (hN.kept hS.2.1)
  have h : ∀ w ∈ Bundle.ownAtoms own ic cls names, w.before args s' = true := vx_own hat' (vx_isRefq hU'.1) (vx_isRefq hN'.1) hU'.2.word hN'.2.word
  have hown' : s'.vm.findClass own = some m.cls := by rw [hvm]; exact hown
  have hins : (Cond.instantiable cls 6).before args s' = true := h _ (by simp [Bundle.ownAtoms])
  obtain ⟨vm₁, cX, kX, hfX, hkX, -, -, X₁, st1⟩ := Y.newCold hexec (own := own) (C := cls) (index := ik) (n := 6) hown' hk' hins hini'
    (g := F0 m pc ls rest) rfl (by rw [hb]; exact d0) (Nat.le_refl _) (Nat.le_refl _)
  generalize hT1 : (T.setVm vm₁).pushCell { cls := cX, slots := kX.instanceTypes.map defaultValue, vm := .none } = T1 at X₁ st1
  have hcat : (Value.ref T.heap.size).category = 1 := rfl
  have hcellA : T1.heap[T.heap.size]? = some (freshCell cX kX) := by rw [← hT1]; exact State.heap_pushCell_size _ _
  have d3' : decode c.code (pc + 3) = .ok (.dup, 1) := by rw [hb]; exact d3
  have d4' : decode c.code (pc + 4) = .ok (.ldc_w is, 3) := by rw [hb]; exact d4
  have hstr' : vk_R own is text sa s' := vk_R.warm hW0 hstr
  obtain ⟨U, hsteps, hrun, hend, hW, hsame, ce, hce, hO⟩ := X₁.ctorThrowS hexec htr (own := own) (cls := cls) (names := names) (ic := ic) hown' hcls hnames h (fun x hx => nomatch hx) hfX hkX hcellA (by rw [hhp, hT]; exact Nat.le_refl _) (msg := .ref sa) rfl
    (g := { method := m, pc := pc + 7, locals := ls, stack := .ref sa :: .ref T.heap.size :: .ref T.heap.size :: rest, locked := none }) rfl hsize rfl rfl (rest := rest) rfl
    (by rw [hb]; exact d7) (by rw [hb]; exact d10) hout hRframes (by simp only [List.map_cons, List.sum_cons, hcat]; omega) hlocks
  obtain ⟨f1, f2⟩ := vx_frame hsame
  rw [hhp] at f1 f2
  have hWs : s.WarmedH U.vm := State.WarmedH.trans hW0 hW
  have hcl : s.vm.findClass cls = some ce.cls := by
    have h9 := hO.cls
    rw [hvm] at h9
    exact h9
  have hall : s.sameButNew ({ U with vm := s.vm } : State) locs mc ms := by
    subst hA
    obtain ⟨e1, e2⟩ := hsame
    rw [State.setFrames_setFrames] at e1
    have h2 : (T.setVm s.vm).sameButNew ({ U with vm := s.vm } : State) [] (0 + 1) (0 + 6) := ⟨e1, e2⟩
    have h3 := X.same.trans h2
    rw [List.append_nil] at h3
    exact h3.mono hc hs
  refine ⟨U, ?_, .threw T.heap.size, hrun, hend, Or.inr ⟨T.heap.size, rfl, cls, ce, locs, hx U hWs.alike f1 (fun q hq => f2 q hq (fun z hz => nomatch hz)), hce, hO.vm, hcl, hWs, hall, hf⟩⟩
  refine st1 _ ?_
  show Steps p.tables e below (T1.setTop { method := m, pc := pc + 3, locals := ls, stack := .ref T.heap.size :: rest, locked := none }) _
  jvm_step X₁.here [X₁.here.top, hexec, d3', Value.category]
  exact X₁.ldcStringW hexec (own := own) (text := text) (index := is) (a := sa) hown' hstr'.1 hstr'.2
    (g := { method := m, pc := pc + 4, locals := ls, stack := .ref T.heap.size :: .ref T.heap.size :: rest, locked := none }) rfl d4' _ hsteps
end Ends
section Bodies
variable {l : Launch}
theorem vx_ofW {y : MethodName} {ws ws' : List Cond} {rm : Room} {Pc : Array Value → State → Prop} {Qc : Array Value → State → Outcome → State → Prop} {XC : String → State → State → Prop} {mc ms : Nat} {free : Addr → Prop} {cc : ByteArray} {maxL : Nat} {ret : Option FieldType}
    (hy : plainName y.cls = true) (hw : ws = Cond.code y cc maxL ret :: ws')
    (body : ∀ p e s m args below meth c s₁, BodyLoose p l y (headSpec ws rm) cc maxL ret e s m args below meth c s₁ → c.maxLocals = maxL → (∀ x ∈ c.exceptionTable.toList, False) → Pc args s →
      W p l e (headSpec ws rm).room s m args below meth c s.heap [] 0 0 (vx_MQ below Qc XC args s mc ms free) (entryFrame m args maxL)) : vx_Met l y ws rm Pc Qc XC mc ms free := by
  refine MetFree.of_bodyS (code := cc) (maxLocals := maxL) (ret := ret) hy ?_ ?_
  · intro args s m h hn
    obtain ⟨meth, c, h1, h2, h3, h4, h5, h6, -, -⟩ := Cond.code_spec hn (atoms_spec (ws := ws) h _ (by rw [hw]; exact List.mem_cons_self))
    exact ⟨meth, c, h1, h2, h3, h4, h5, h6⟩
  · intro p e s m args below meth c s₁ B hml hP _
    have hh0 : s₁.heap = s.heap := by rw [B.state]; rfl
    have ht : ∀ x ∈ c.exceptionTable.toList, False := by
      obtain ⟨meth9, c9, h1, h2, -, -, -, -, h7, -⟩ := Cond.code_spec B.named (atoms_spec (ws := ws) B.pre _ (by rw [hw]; exact List.mem_cons_self))
      cases Option.some.inj (h1.symm.trans B.method)
      cases Option.some.inj (h2.symm.trans (Stand.of_body B).code)
      intro x hx
      rw [Array.isEmpty_iff.mp h7] at hx
      cases hx
    obtain ⟨t, a1, o, b1, b2, b3⟩ := body p e s m args below meth c s₁ B hml ht hP s₁ hh0 (Stand.of_body B)
    exact ⟨t, o, a1, b1, b2, b3⟩
/-- the table of a body with handlers -/
theorem vx_table {p : Program} {x y : MethodName} {S : Spec} {cc bytes : ByteArray} {maxL maxL' : Nat} {ret ret' : Option FieldType} {e : Env} {s s₁ : State} {m : MethodId} {args : Array Value} {below : List Frame} {meth : Method} {c : Code} {hh : List (Nat × Nat × Nat × Nat)}
    (B : BodyLoose p l y S cc maxL ret e s m args below meth c s₁) (h : (Cond.codeWith y bytes maxL' ret' hh).before args s = true) : c.exceptionTable.toList = tableOf hh := by
  obtain ⟨m9, meth9, c9, hn9, h1, h2, -, -, h6, -⟩ := Cond.codeWith_spec h
  cases Option.some.inj (hn9.symm.trans B.named)
  cases Option.some.inj (h1.symm.trans B.method)
  cases Option.some.inj (h2.symm.trans (Stand.of_body B).code)
  rw [← h6, table_eq]
end Bodies
end VXA
/-! ===== END ===== -/
/-! ===== BEGIN a static call of a method with an exception table ===== -/
section VXS
variable {p : Program} {l : Launch} {e : Env} {R : Room} {s : State} {m : MethodId} {args : Array Value} {below : List Frame} {meth : Method} {c : Code} {T : State} {H : Heap} {locs : List Loc} {cells slots : Nat}
abbrev vx_CSW (R : Room) (s : State) (args : Array Value) (own : String) (index : Nat) (y : MethodName) (bytes : ByteArray) (maxL : Nat) (ret : Option FieldType) (hh : List (Nat × Nat × Nat × Nat)) (ws : List Cond) (rm : Room) (mc ms n : Nat) : Prop :=
  (rm.cells = mc ∧ rm.slots = ms ∧ rm.frames + 1 ≤ R.frames ∧ 8 + (maxL + 11) + rm.locals ≤ R.locals ∧ (∀ w ∈ ws, ∀ (a' : Array Value) (U : State), s.WarmedH U.vm → w.before a' U = true) ∧ Cond.codeWith y bytes maxL ret hh ∈ ws) ∧
  (Cond.codeWith y bytes maxL ret hh).before args s = true ∧ (Cond.initialized y.cls).before args s = true ∧ (y.cls ≠ "java/lang/invoke/MethodHandle" ∧ y.cls ≠ "java/lang/invoke/VarHandle") ∧
  (∀ sig, parseMethodDescriptor y.desc = some sig → n = sig.parameters.length) ∧ (Cond.methodLink own index y).before args s = true ∧ (Cond.static y).before args s = true
theorem vx_cwSW {own : String} {index maxL mc ms : Nat} {y : MethodName} {bytes : ByteArray} {ret : Option FieldType} {hh : List (Nat × Nat × Nat × Nat)} {Ts ws ws' : List Cond} {rm : Room} (n : Nat) (ht : ∀ w ∈ Ts, w.before args s = true) (hT : GoodIn Ts (va_wsS own index y ws)) (hw : ws = Cond.codeWith y bytes maxL ret hh :: ws') (hrc : rm.cells = mc) (hrs : rm.slots = ms)
    (hd : y.cls ≠ "java/lang/invoke/MethodHandle" ∧ y.cls ≠ "java/lang/invoke/VarHandle" ∧ (parseMethodDescriptor y.desc).map (fun d => d.parameters.length) = some n) (hR : rm.frames + 1 ≤ R.frames ∧ 8 + (maxL + 11) + rm.locals ≤ R.locals) :
    vx_CSW R s args own index y bytes maxL ret hh ws rm mc ms n := by
  have ok : ∀ w ∈ va_wsS own index y ws, w.before args s = true := fun w h => ht w (hT w h).1
  have hG : GoodIn Ts ws := fun w h => hT w (by unfold va_wsS; exact List.mem_append_right _ h)
  have hc : Cond.codeWith y bytes maxL ret hh ∈ ws := by rw [hw]; exact List.mem_cons_self
  refine ⟨⟨hrc, hrs, hR.1, hR.2, pay_in ht hG, hc⟩, ht _ (hG _ hc).1, ok _ (by simp [va_wsS]), ⟨hd.1, hd.2.1⟩, fun sig h => ?_, ok _ (by simp [va_wsS]), ok _ (by simp [va_wsS])⟩
  have h2 := hd.2.2
  rw [h] at h2
  exact (Option.some.inj h2).symm
theorem vx_callSW (X : Stand p l e R s m args below meth c T locs cells slots) (hexec : p.tables.exec = Jvm.exec) {own : String} {index : Nat} {y : MethodName} {bytes : ByteArray} {maxL : Nat} {ret : Option FieldType} {hh : List (Nat × Nat × Nat × Nat)}
    (hown : s.vm.findClass own = some m.cls) (hlink : (Cond.methodLink own index y).before args s = true) (hstat : (Cond.static y).before args s = true) (hinit : (Cond.initialized y.cls).before args s = true)
    (hcode : (Cond.codeWith y bytes maxL ret hh).before args s = true) (hy : y.cls ≠ "java/lang/invoke/MethodHandle" ∧ y.cls ≠ "java/lang/invoke/VarHandle")
    {W9 : Nat} {Pre : Pt → Array Value → Prop} {Post : Pt → Array Value → Option Value → Pt → Prop} (hK : Back l R p e below s args y 3 W9 Pre Post)
    {g : JFrame} (hg : g.method = m) (hsize : g.locals.size = c.maxLocals) {argsL rest : List Value} (hlen : ∀ sig, parseMethodDescriptor y.desc = some sig → argsL.length = sig.parameters.length)
    (hstack : g.stack = argsL.reverse ++ rest) (hW : 2 * g.monitorRoom + (rest.map fun v => v.category).sum ≤ W9) (hdg : decode c.code g.pc = .ok (.invokestatic index, 3))
    (hpre : ∀ vm₁, s.WarmedH vm₁ → Pre ⟨T.setVm vm₁, locs, cells, slots⟩ argsL.toArray) :
    ∃ (v : Option Value) (vm₁ : Vm) (B : Pt), s.WarmedH vm₁ ∧ Stand p l e R s m args below meth c B.U B.locs B.cells B.slots ∧ Post ⟨T.setVm vm₁, locs, cells, slots⟩ argsL.toArray v B ∧
      ∀ target, Steps p.tables e below (B.U.setTop { g with pc := g.pc + 3, stack := v.toList ++ rest }) target → Steps p.tables e below (T.setTop g) target := by
  obtain ⟨mk, methM, cM, hnamed, hmethM, -, -, -, -, -, -, hsigM⟩ := Cond.codeWith_spec hcode
  have hstatic : methM.isStatic = true := Cond.static_spec hnamed hmethM hstat
  obtain ⟨kP, hkP, -⟩ := className_of_methodNamed hnamed
  have hinitP : kP.init = .initialized := Cond.initialized_spec (findClass_of_methodNamed hnamed) hkP hinit
  obtain ⟨vm₁, X₁, hstep₁⟩ := X.invokestatic hexec hown hlink hnamed hmethM hstatic hkP hinitP hy (g := g) hg (argsL := argsL) (rest := rest) (hlen _ hsigM) hstack hdg
  obtain ⟨v, B, X', hpost, hsteps⟩ := hK m meth c ⟨T.setVm vm₁, locs, cells, slots⟩ { g with stack := rest } (.invokestatic index) mk argsL.toArray X₁ hg hsize hdg hW (X₁.named hnamed) (hpre vm₁ X₁.warmed)
  exact ⟨v, vm₁, B, X₁.warmed, X', hpost, fun target h => hstep₁ _ fun acts => by rw [doInvoke_state]; exact hsteps.trans h⟩
theorem vx_runSW {y : MethodName} {bytes cc : ByteArray} {maxL nL mc ms n index : Nat} {ret : Option FieldType} {hh : List (Nat × Nat × Nat × Nat)} {ws : List Cond} {rm : Room} {Pc : Array Value → State → Prop} {Qc : Array Value → State → Outcome → State → Prop} {free : Addr → Prop} {Ts : List Cond} {own : String} {As rest : List Value} {g : JFrame}
    (S : CallFix p m c cc nL s args Ts own) (hM : Met l y ws rm Pc Qc mc ms free) (cw : vx_CSW R s args own index y bytes maxL ret hh ws rm mc ms n) (hp : PreS s H Pc As)
    (hg : g.method = m) (hn : As.length = n) (hsize : g.locals.size = nL) (hstack : g.stack = As.reverse ++ rest) (hW : 2 * g.monitorRoom + (rest.map fun v => v.category).sum ≤ 8) (hdg : decode cc g.pc = .ok (.invokestatic index, 3)) (hf : cells + mc ≤ R.cells ∧ slots + ms ≤ R.slots) :
    va_Run p l e R s m args below meth c H locs cells slots mc ms g rest (Qc As.toArray) (free) := by
  obtain ⟨⟨hrc, hrs, hfr, hlo, hws, hcw⟩, hcode, hini, hy, hlen, hl, hstt⟩ := cw
  have hK : Back l R p e below s args y 3 8 (PreOf R mc ms Pc) (PostOf Qc mc ms free) := va_backW (hh := hh) (bytes := bytes) (maxL := maxL) (ret := ret) hM hp.1 hrc hrs hfr hlo hws hcw (fun a' U hW => word_at hW (Or.inl (by first | rfl | simp [Cond.onTables, Cond.keeps, Cond.steady])) hini)
  obtain ⟨hx, hb, hml, ho, -⟩ := S
  intro T hT X
  obtain ⟨v, vm₁, ⟨U', l2, c2, s2⟩, hW₁, X', ⟨g', mk, t, L, e1, e2, hq, h1, hL, h2, h3⟩, st⟩ := vx_callSW X hx (hh := hh) (bytes := bytes) (maxL := maxL) (ret := ret) ho hl hstt hini hcode hy hK hg (hsize.trans hml.symm) (argsL := As) (rest := rest) (fun sig h => hn.trans (hlen sig h)) hstack hW (by rw [hb]; exact hdg)
    (fun vm₁ hW₁ => ⟨hf.1, hf.2, hp.2 (T.setVm vm₁) hT hW₁⟩)
  dsimp only [Pt.U, Pt.locs, Pt.cells, Pt.slots] at X' e1 e2 h1 h2 h3 st
  subst h1; subst h2; subst h3
  exact ⟨v, (T.setVm vm₁).calling g' mk As.toArray, t, U', L, hT, X', hL, e1, e2, hq, st⟩
/-- not caught here, past rows that name other classes: it goes on to the caller -/
theorem vx_outP {p : Program} {l : Launch} {e : Env} {R : Room} {s : State} {m : MethodId} {args : Array Value} {below : List Frame} {meth : Method} {c : Code} {H : Heap} {locs : List Loc} {cells slots : Nat} {free : Addr → Prop} {ls : Array Slot} {rest : List Value} {Qc : Array Value → State → Outcome → State → Prop} {XC : String → State → State → Prop}
    {pc : Nat} {own E : String} {ce : Cell} {q : Addr} {mc ms : Nat} (hown : s.vm.findClass own = some m.cls) (hlocks : meth.locks = false)
    (hpass : ∀ z ∈ c.exceptionTable.toList, covers z pc = false ∨ (z.catchType ≠ 0 ∧ ∃ nm : String, (Cond.classLink own z.catchType nm).before args s = true ∧ va_Nc E nm s)) (hcell : H[q]? = some ce) (hv : ce.vm = .none) (hcl : s.vm.findClass E = some ce.cls)
    (hx : ∀ t : State, t.heap = H → s.vm.Alike t.vm → XC E s t) (hf : ∀ z ∈ locs, free z.base) (hc : cells ≤ mc) (hs : slots ≤ ms) :
    vx_W p l e R s m args below meth c H locs cells slots (vx_MQ below Qc XC args s mc ms free) (F0 m pc ls rest) q := by
  intro T hT X
  have hpl : e.platform.magicAccessors = ({} : Platform).magicAccessors := by rw [X.admits.platform]
  obtain ⟨vm', hW', X', st⟩ := X.outThrough hlocks q (g := F0 m pc ls rest) rfl rfl rfl (cell := ce) (by rw [hT]; exact hcell) (by rw [hv]; rfl)
    (by obtain ⟨k9, h9, -⟩ := Vm.findClass_spec hcl; exact ⟨k9, h9⟩) (fun z hz => by
      rcases hpass z hz with h | ⟨hz0, nm, hl1, hn1⟩
      · exact Or.inl h
      · obtain ⟨c6, hc6, hcl6⟩ := Cond.classLink_spec hown hl1 e.platform hpl
        obtain ⟨a8, b8, h1, h2, h3⟩ := hn1
        cases Option.some.inj (h1.symm.trans hcl)
        cases Option.some.inj (h2.symm.trans hc6)
        exact Or.inr ⟨hz0, _, hcl6, h3⟩)
  obtain ⟨g₀, hfr⟩ := X'.frames_eq
  have hcell9 : ((T.setVm vm').setFrames (.throwing q :: below)).heap[q]? = some ce := by
    show T.heap[q]? = some ce
    rw [hT]; exact hcell
  have hend : Ended ((T.setVm vm').setFrames (.throwing q :: below)) below (.threw q) := State.frames_setFrames _ (State.cur_lt_of_frames hfr)
  refine ⟨(T.setVm vm').setFrames (.throwing q :: below), ?_, .threw q, X'.here.running, hend, Or.inr ⟨q, rfl, E, ce, locs, hx _ hT (X'.ends _).1.alike, hcell9, hv, hcl, (X'.ends _).1, (X'.ends _).2.mono hc hs, hf⟩⟩
  rw [X.pushThrowing_eq]
  exact st
/-- a thing of a world lies in the heap -/
theorem vx_lt {D : va_G} {cl : List vw_C} {ws : va_W} {H1 : Heap} (h : va_P D cl ws H1) {k : Nat} {q : Nat × va_E} (hk : ws[k]? = some q) : q.1 < H1.size := (h k q hk).lt
end VXS
/-! ===== END ===== -/
/-! ===== BEGIN methods with a table of their own: called by a name, returning or throwing ===== -/
section VXH
/-! vx_backW, vx_callVX, vx_callSX, vx_callVW, vx_runVW, vx_runVX, vx_runSX, vx_ofWH follow the same proofs as their sisters above (Free/Laws.lean, Shelf42/LK1.lean); vx_outP calls Shelf42/NT130.lean (outThrough). -/
section
variable {l : Launch} {R : Room} {p : Program} {e : Env} {below : List Frame} {s : State} {sargs : Array Value} {y : MethodName} {len W9 : Nat}
theorem vx_backW {ws : List Cond} {rm : Room} {Pc : Array Value → State → Prop} {Qc : Array Value → State → Outcome → State → Prop} {XC : String → State → State → Prop} {mc ms : Nat} {free : Addr → Prop} {bytes : ByteArray} {maxL : Nat} {ret : Option FieldType} {hh : List (Nat × Nat × Nat × Nat)}
    (hM : vx_Met l y ws rm Pc Qc XC mc ms free) (hblind : FrameBlind Pc) (hrc : rm.cells = mc) (hrs : rm.slots = ms)
    (hframes : rm.frames + 1 ≤ R.frames) (hlocals : W9 + (maxL + 11) + rm.locals ≤ R.locals)
    (hws : ∀ w ∈ ws, ∀ a' U, s.WarmedH U.vm → w.before a' U = true) (hcode : Cond.codeWith y bytes maxL ret hh ∈ ws) (hinit : ∀ a' U, s.WarmedH U.vm → (Cond.initialized y.cls).before a' U = true) :
    vx_Back l R p e below s sargs y len W9 (PreOf R mc ms Pc) (PostOf Qc mc ms free) (vx_Post XC mc ms free) := by
  intro m meth c A g ig mk a X hg hsize hdg hW hn hp
  have h1 : (headSpec ws rm).pre.before a A.U = true := atoms_intro fun w hw => hws w hw _ _ X.warmed
  have h2 : (Cond.codeWith y bytes maxL ret hh).before a A.U = true := hws _ hcode _ _ X.warmed
  have h3 : (Cond.initialized y.cls).before a A.U = true := hinit _ _ X.warmed
  have h4 : A.cells + (headSpec ws rm).room.cells ≤ R.cells := by rw [show (headSpec ws rm).room.cells = mc from hrc]; exact hp.1
  have h5 : A.slots + (headSpec ws rm).room.slots ≤ R.slots := by rw [show (headSpec ws rm).room.slots = ms from hrs]; exact hp.2.1
  have hPc : Pc a (A.U.calling g mk a) := hblind _ _ _ _ hp.2.2
  obtain ⟨U, Ls, c0, s0⟩ := A
  dsimp only [Pt.U, Pt.locs, Pt.cells, Pt.slots] at h1 h2 h3 h4 h5 X hn hPc ⊢
  obtain ⟨m9, methY, cY, hn9, hmY, hcY, -, hlY, -⟩ := Cond.codeWith_spec h2
  cases Option.some.inj (hn9.symm.trans hn)
  obtain ⟨kY, hkY, -⟩ := className_of_methodNamed hn
  have hinitY : kY.init = .initialized := Cond.initialized_spec (findClass_of_methodNamed hn) hkY h3
  have h : At U g.method c below := by rw [hg]; exact X.here
  have hlocals9 : W9 + (maxL + 11) + (headSpec ws rm).room.locals ≤ R.locals := hlocals
  have happ : (headSpec ws rm).appliesLoose y e.platform (U.calling g mk a) = true :=
    Spec.appliesLoose_calling (g := g) h hdg hn hkY hinitY
      (X.room_calling (g := g) (R' := (headSpec ws rm).room) hsize hmY hcY hframes (by rw [hlY]; omega) h4 h5) h1
  obtain ⟨mid, hmid⟩ := h.above
  have hfr : (U.setTop g).frames = (.java g :: mid) ++ below := by rw [State.frames_setTop' g h.top, hmid]; rfl
  obtain ⟨o, s₂, hsteps, -, hend, hq⟩ := Steps.callFree hM p X.admits X.cas X.clock (acts := []) hfr happ hPc trivial
  have hq' : vx_Q Qc XC mc ms free a (U.calling g mk a) o s₂ := hq
  rw [State.frames_setTop' g h.top] at hend
  obtain ⟨g₀, hg0⟩ := Option.isSome_iff_exists.mp h.top
  obtain ⟨r, hr⟩ := State.topJava?_eq_some.mp hg0
  have hr' : (({ U with heap := s₂.heap, slotsUsed := s₂.slotsUsed } : State).setVm s₂.vm).frames = .java g₀ :: r := hr
  rcases hq' with ⟨hqc, L, hfe, hL⟩ | ⟨q, rfl, E, ce, L, hx, hce, hcv, hcl, hW₂, hsm, hL⟩
  · obtain ⟨⟨v, rfl⟩, hW₂, e2, q2, q3, q4, q5, q6⟩ := id hfe
    have e3 : s₂ = ({ (U.calling g mk a).setFrames s₂.frames with heap := s₂.heap, slotsUsed := s₂.slotsUsed } : State).setVm s₂.vm := by
      have : s₂ = ({ s₂ with vm := (U.calling g mk a).vm } : State).setVm s₂.vm := rfl
      rw [e2] at this
      exact this
    obtain ⟨c₂, i₂, len₂, hc₂, hd₂, hf₂⟩ := hend
    have hW' : U.WarmedH s₂.vm := hW₂
    have hcc : c₂ = c := by
      have h1 : s₂.code? g.method = U.code? g.method := by
        rw [State.code?_eq, State.code?_eq, hW'.alike.method?]
      exact Option.some.inj (hc₂.symm.trans (h1.trans h.code))
    subst hcc
    have hlen : len₂ = len := by rw [hdg] at hd₂; cases hd₂; rfl
    subst hlen
    have hs₂ : s₂ = (({ U with heap := s₂.heap, slotsUsed := s₂.slotsUsed } : State).setVm s₂.vm).setTop { g with pc := g.pc + len₂, stack := v.toList ++ g.stack } := by
      refine e3.trans ?_
      rw [hf₂, State.calling_eq h.top, State.setFrames_setFrames, State.setTop_of_frames _ hr', hr]
      rfl
    have hsame : U.sameButNew ({ U with heap := s₂.heap, slotsUsed := s₂.slotsUsed } : State) L mc ms := by
      refine ⟨?_, q2, q3, q4, q5, q6⟩
      obtain ⟨t, ht, -⟩ := State.frames_cons hr
      show ({ U with heap := s₂.heap, slotsUsed := s₂.slotsUsed } : State) = { U.setFrames U.frames with heap := s₂.heap, slotsUsed := s₂.slotsUsed }
      rw [State.setFrames_self ht]
    subst hg
    refine Or.inl ⟨v, ⟨(({ U with heap := s₂.heap, slotsUsed := s₂.slotsUsed } : State).setVm s₂.vm), Ls ++ L, c0 + mc, s0 + ms⟩,
      ⟨X.admits, X.cas, X.clock, X.frames, X.room, X.hears, X.method, X.code, (X.here.setHeapUsed s₂.heap s₂.slotsUsed).setVm hW'.alike, X.tail, State.WarmedH.trans X.warmed hW', X.limits, X.bytes, X.same.trans (hsame.setVm s.vm)⟩,
      ⟨g, mk, s₂, L, rfl, rfl, hqc, rfl, hL, rfl, rfl⟩, ?_⟩
    show Steps p.tables e below _ ((({ U with heap := s₂.heap, slotsUsed := s₂.slotsUsed } : State).setVm s₂.vm).setTop { g with pc := g.pc + len₂, stack := v.toList ++ g.stack })
    rw [← hs₂]
    exact hsteps
  · obtain ⟨e2, q2, q3, q4, q5, q6⟩ := id hsm
    have e3 : s₂ = ({ (U.calling g mk a).setFrames s₂.frames with heap := s₂.heap, slotsUsed := s₂.slotsUsed } : State).setVm s₂.vm := by
      have : s₂ = ({ s₂ with vm := (U.calling g mk a).vm } : State).setVm s₂.vm := rfl
      rw [e2] at this
      exact this
    have hf₂ : s₂.frames = .throwing q :: .java g :: U.frames.tail := hend
    have hW' : U.WarmedH s₂.vm := hW₂
    have hs₂ : s₂ = ((({ U with heap := s₂.heap, slotsUsed := s₂.slotsUsed } : State).setVm s₂.vm).setTop g).pushFrame (.throwing q) := by
      refine e3.trans ?_
      rw [hf₂, State.calling_eq h.top, State.setFrames_setFrames, State.pushFrame, State.frames_setTop _ hr', State.setTop_of_frames _ hr', State.setFrames_setFrames, hr]
      rfl
    have hsame : U.sameButNew ({ U with heap := s₂.heap, slotsUsed := s₂.slotsUsed } : State) L mc ms := by
      refine ⟨?_, q2, q3, q4, q5, q6⟩
      obtain ⟨t, ht, -⟩ := State.frames_cons hr
      show ({ U with heap := s₂.heap, slotsUsed := s₂.slotsUsed } : State) = { U.setFrames U.frames with heap := s₂.heap, slotsUsed := s₂.slotsUsed }
      rw [State.setFrames_self ht]
    subst hg
    refine Or.inr ⟨q, ⟨(({ U with heap := s₂.heap, slotsUsed := s₂.slotsUsed } : State).setVm s₂.vm), Ls ++ L, c0 + mc, s0 + ms⟩,
      ⟨X.admits, X.cas, X.clock, X.frames, X.room, X.hears, X.method, X.code, (X.here.setHeapUsed s₂.heap s₂.slotsUsed).setVm hW'.alike, X.tail, State.WarmedH.trans X.warmed hW', X.limits, X.bytes, X.same.trans (hsame.setVm s.vm)⟩,
      ⟨g, mk, s₂, L, E, ce, rfl, rfl, hx, hce, hcv, hcl, rfl, hL, rfl, rfl⟩, ?_⟩
    show Steps p.tables e below _ (((({ U with heap := s₂.heap, slotsUsed := s₂.slotsUsed } : State).setVm s₂.vm).setTop g).pushFrame (.throwing q))
    rw [← hs₂]
    exact hsteps
end
variable {p : Program} {l : Launch} {e : Env} {R : Room} {s : State} {m : MethodId} {args : Array Value} {below : List Frame} {meth : Method} {c : Code} {T : State} {H : Heap} {locs : List Loc} {cells slots : Nat}
theorem vx_callVX (X : Stand p l e R s m args below meth c T locs cells slots) (hexec : p.tables.exec = Jvm.exec) {own C : String} {index : Nat} {y : MethodName} {bytes : ByteArray} {maxL : Nat} {ret : Option FieldType} {hh : List (Nat × Nat × Nat × Nat)}
    (hown : s.vm.findClass own = some m.cls) (hlink : (Cond.methodLink own index y).before args s = true) (hinst : (Cond.instanceMethod y).before args s = true) (hsel : (Cond.selects C y y).before args s = true)
    (hcode : (Cond.codeWith y bytes maxL ret hh).before args s = true) (hy : y.cls ≠ "java/lang/invoke/MethodHandle" ∧ y.cls ≠ "java/lang/invoke/VarHandle")
    {W9 : Nat} {Pre : Pt → Array Value → Prop} {Post : Pt → Array Value → Option Value → Pt → Prop} {PostX : Pt → Array Value → Addr → Pt → Prop} (hK : vx_Back l R p e below s args y 3 W9 Pre Post PostX)
    {b : Addr} {cellB : Cell} (hcell : T.heap[b]? = some cellB) (hobj : cellB.vm.isStatics = false) (hcls : s.vm.findClass C = some cellB.cls)
    {g : JFrame} (hg : g.method = m) (hsize : g.locals.size = c.maxLocals) {argsL rest : List Value} (hlen : ∀ sig, parseMethodDescriptor y.desc = some sig → argsL.length = sig.parameters.length)
    (hstack : g.stack = argsL.reverse ++ .ref b :: rest) (hW : 2 * g.monitorRoom + (rest.map fun v => v.category).sum ≤ W9) (hdg : decode c.code g.pc = .ok (.invokevirtual index, 3))
    (hpre : ∀ vm₁, s.WarmedH vm₁ → Pre ⟨T.setVm vm₁, locs, cells, slots⟩ (Value.ref b :: argsL).toArray) :
    (∃ (v : Option Value) (vm₁ : Vm) (B : Pt), s.WarmedH vm₁ ∧ Stand p l e R s m args below meth c B.U B.locs B.cells B.slots ∧ Post ⟨T.setVm vm₁, locs, cells, slots⟩ (Value.ref b :: argsL).toArray v B ∧
      ∀ target, Steps p.tables e below (B.U.setTop { g with pc := g.pc + 3, stack := v.toList ++ rest }) target → Steps p.tables e below (T.setTop g) target) ∨
    (∃ (q : Addr) (vm₁ : Vm) (B : Pt), s.WarmedH vm₁ ∧ Stand p l e R s m args below meth c B.U B.locs B.cells B.slots ∧ PostX ⟨T.setVm vm₁, locs, cells, slots⟩ (Value.ref b :: argsL).toArray q B ∧
      Steps p.tables e below (T.setTop g) ((B.U.setTop { g with stack := rest }).pushFrame (.throwing q))) := by
  obtain ⟨mk, methM, hnamed, hmethM, hstM, habM⟩ := Cond.instanceMethod_spec hinst
  obtain ⟨m8, methM', cM, hn8, hmethM', -, -, -, -, -, -, hsigM⟩ := Cond.codeWith_spec hcode
  cases Option.some.inj (hn8.symm.trans hnamed)
  cases hmethM.symm.trans hmethM'
  obtain ⟨c2, r2, m2, q1, q2, q3, q4, kP, hkP, hkPi⟩ := Cond.selects_spec hsel
  cases hcls.symm.trans q1
  cases (State.methodFound?_of_named hnamed hy).symm.trans q2
  cases hnamed.symm.trans q3
  have hselP : selectMethod e.platform s.vm cellB.cls mk = .method mk := by rw [Launch.admits_selectMethod X.admits]; exact q4
  obtain ⟨vm₁, X₁, hstep₁⟩ := X.invokevirtual hexec hown hlink hnamed hmethM hstM hkP hkPi hy (a := b) (cell := cellB) hcell
    (fun z h => by rw [h] at hobj; cases hobj) hselP hmethM habM hkP hkPi (g := g) hg (argsL := argsL) (rest := rest) (hlen _ hsigM) hstack hdg
  rcases hK m meth c ⟨T.setVm vm₁, locs, cells, slots⟩ { g with stack := rest } (.invokevirtual index) mk (Value.ref b :: argsL).toArray X₁ hg hsize hdg hW (X₁.named hnamed) (hpre vm₁ X₁.warmed) with ⟨v, B, X', hpost, hsteps⟩ | ⟨q, B, X', hpost, hsteps⟩
  · exact Or.inl ⟨v, vm₁, B, X₁.warmed, X', hpost, fun target h => hstep₁ _ fun acts => by rw [doInvoke_state]; exact hsteps.trans h⟩
  · exact Or.inr ⟨q, vm₁, B, X₁.warmed, X', hpost, hstep₁ _ fun acts => by rw [doInvoke_state]; exact hsteps⟩
theorem vx_callSX (X : Stand p l e R s m args below meth c T locs cells slots) (hexec : p.tables.exec = Jvm.exec) {own : String} {index : Nat} {y : MethodName} {bytes : ByteArray} {maxL : Nat} {ret : Option FieldType} {hh : List (Nat × Nat × Nat × Nat)}
    (hown : s.vm.findClass own = some m.cls) (hlink : (Cond.methodLink own index y).before args s = true) (hstat : (Cond.static y).before args s = true) (hinit : (Cond.initialized y.cls).before args s = true)
    (hcode : (Cond.codeWith y bytes maxL ret hh).before args s = true) (hy : y.cls ≠ "java/lang/invoke/MethodHandle" ∧ y.cls ≠ "java/lang/invoke/VarHandle")
    {W9 : Nat} {Pre : Pt → Array Value → Prop} {Post : Pt → Array Value → Option Value → Pt → Prop} {PostX : Pt → Array Value → Addr → Pt → Prop} (hK : vx_Back l R p e below s args y 3 W9 Pre Post PostX)
    {g : JFrame} (hg : g.method = m) (hsize : g.locals.size = c.maxLocals) {argsL rest : List Value} (hlen : ∀ sig, parseMethodDescriptor y.desc = some sig → argsL.length = sig.parameters.length)
    (hstack : g.stack = argsL.reverse ++ rest) (hW : 2 * g.monitorRoom + (rest.map fun v => v.category).sum ≤ W9) (hdg : decode c.code g.pc = .ok (.invokestatic index, 3))
    (hpre : ∀ vm₁, s.WarmedH vm₁ → Pre ⟨T.setVm vm₁, locs, cells, slots⟩ argsL.toArray) :
    (∃ (v : Option Value) (vm₁ : Vm) (B : Pt), s.WarmedH vm₁ ∧ Stand p l e R s m args below meth c B.U B.locs B.cells B.slots ∧ Post ⟨T.setVm vm₁, locs, cells, slots⟩ argsL.toArray v B ∧
      ∀ target, Steps p.tables e below (B.U.setTop { g with pc := g.pc + 3, stack := v.toList ++ rest }) target → Steps p.tables e below (T.setTop g) target) ∨
    (∃ (q : Addr) (vm₁ : Vm) (B : Pt), s.WarmedH vm₁ ∧ Stand p l e R s m args below meth c B.U B.locs B.cells B.slots ∧ PostX ⟨T.setVm vm₁, locs, cells, slots⟩ argsL.toArray q B ∧
      Steps p.tables e below (T.setTop g) ((B.U.setTop { g with stack := rest }).pushFrame (.throwing q))) := by
  obtain ⟨mk, methM, cM, hnamed, hmethM, -, -, -, -, -, -, hsigM⟩ := Cond.codeWith_spec hcode
  have hstatic : methM.isStatic = true := Cond.static_spec hnamed hmethM hstat
  obtain ⟨kP, hkP, -⟩ := className_of_methodNamed hnamed
  have hinitP : kP.init = .initialized := Cond.initialized_spec (findClass_of_methodNamed hnamed) hkP hinit
  obtain ⟨vm₁, X₁, hstep₁⟩ := X.invokestatic hexec hown hlink hnamed hmethM hstatic hkP hinitP hy (g := g) hg (argsL := argsL) (rest := rest) (hlen _ hsigM) hstack hdg
  rcases hK m meth c ⟨T.setVm vm₁, locs, cells, slots⟩ { g with stack := rest } (.invokestatic index) mk argsL.toArray X₁ hg hsize hdg hW (X₁.named hnamed) (hpre vm₁ X₁.warmed) with ⟨v, B, X', hpost, hsteps⟩ | ⟨q, B, X', hpost, hsteps⟩
  · exact Or.inl ⟨v, vm₁, B, X₁.warmed, X', hpost, fun target h => hstep₁ _ fun acts => by rw [doInvoke_state]; exact hsteps.trans h⟩
  · exact Or.inr ⟨q, vm₁, B, X₁.warmed, X', hpost, hstep₁ _ fun acts => by rw [doInvoke_state]; exact hsteps⟩
theorem vx_callVW (X : Stand p l e R s m args below meth c T locs cells slots) (hexec : p.tables.exec = Jvm.exec) {own C : String} {index : Nat} {y : MethodName} {bytes : ByteArray} {maxL : Nat} {ret : Option FieldType} {hh : List (Nat × Nat × Nat × Nat)}
    (hown : s.vm.findClass own = some m.cls) (hlink : (Cond.methodLink own index y).before args s = true) (hinst : (Cond.instanceMethod y).before args s = true) (hsel : (Cond.selects C y y).before args s = true)
    (hcode : (Cond.codeWith y bytes maxL ret hh).before args s = true) (hy : y.cls ≠ "java/lang/invoke/MethodHandle" ∧ y.cls ≠ "java/lang/invoke/VarHandle")
    {W9 : Nat} {Pre : Pt → Array Value → Prop} {Post : Pt → Array Value → Option Value → Pt → Prop} (hK : Back l R p e below s args y 3 W9 Pre Post)
    {b : Addr} {cellB : Cell} (hcell : T.heap[b]? = some cellB) (hobj : cellB.vm.isStatics = false) (hcls : s.vm.findClass C = some cellB.cls)
    {g : JFrame} (hg : g.method = m) (hsize : g.locals.size = c.maxLocals) {argsL rest : List Value} (hlen : ∀ sig, parseMethodDescriptor y.desc = some sig → argsL.length = sig.parameters.length)
    (hstack : g.stack = argsL.reverse ++ .ref b :: rest) (hW : 2 * g.monitorRoom + (rest.map fun v => v.category).sum ≤ W9) (hdg : decode c.code g.pc = .ok (.invokevirtual index, 3))
    (hpre : ∀ vm₁, s.WarmedH vm₁ → Pre ⟨T.setVm vm₁, locs, cells, slots⟩ (Value.ref b :: argsL).toArray) :
    ∃ (v : Option Value) (vm₁ : Vm) (B : Pt), s.WarmedH vm₁ ∧ Stand p l e R s m args below meth c B.U B.locs B.cells B.slots ∧ Post ⟨T.setVm vm₁, locs, cells, slots⟩ (Value.ref b :: argsL).toArray v B ∧
      ∀ target, Steps p.tables e below (B.U.setTop { g with pc := g.pc + 3, stack := v.toList ++ rest }) target → Steps p.tables e below (T.setTop g) target := by
  obtain ⟨mk, methM, hnamed, hmethM, hstM, habM⟩ := Cond.instanceMethod_spec hinst
  obtain ⟨m8, methM', cM, hn8, hmethM', -, -, -, -, -, -, hsigM⟩ := Cond.codeWith_spec hcode
  cases Option.some.inj (hn8.symm.trans hnamed)
  cases hmethM.symm.trans hmethM'
  obtain ⟨c2, r2, m2, q1, q2, q3, q4, kP, hkP, hkPi⟩ := Cond.selects_spec hsel
  cases hcls.symm.trans q1
  cases (State.methodFound?_of_named hnamed hy).symm.trans q2
  cases hnamed.symm.trans q3
  have hselP : selectMethod e.platform s.vm cellB.cls mk = .method mk := by rw [Launch.admits_selectMethod X.admits]; exact q4
  obtain ⟨vm₁, X₁, hstep₁⟩ := X.invokevirtual hexec hown hlink hnamed hmethM hstM hkP hkPi hy (a := b) (cell := cellB) hcell
    (fun z h => by rw [h] at hobj; cases hobj) hselP hmethM habM hkP hkPi (g := g) hg (argsL := argsL) (rest := rest) (hlen _ hsigM) hstack hdg
  obtain ⟨v, B, X', hpost, hsteps⟩ := hK m meth c ⟨T.setVm vm₁, locs, cells, slots⟩ { g with stack := rest } (.invokevirtual index) mk (Value.ref b :: argsL).toArray X₁ hg hsize hdg hW (X₁.named hnamed) (hpre vm₁ X₁.warmed)
  exact ⟨v, vm₁, B, X₁.warmed, X', hpost, fun target h => hstep₁ _ fun acts => by rw [doInvoke_state]; exact hsteps.trans h⟩
abbrev vx_CVW (R : Room) (s : State) (args : Array Value) (own C : String) (index : Nat) (y : MethodName) (bytes : ByteArray) (maxL : Nat) (ret : Option FieldType) (hh : List (Nat × Nat × Nat × Nat)) (ws : List Cond) (rm : Room) (mc ms n : Nat) : Prop :=
  (rm.cells = mc ∧ rm.slots = ms ∧ rm.frames + 1 ≤ R.frames ∧ 8 + (maxL + 11) + rm.locals ≤ R.locals ∧ (∀ w ∈ ws, ∀ (a' : Array Value) (U : State), s.WarmedH U.vm → w.before a' U = true) ∧ Cond.codeWith y bytes maxL ret hh ∈ ws) ∧
  (Cond.codeWith y bytes maxL ret hh).before args s = true ∧ (Cond.initialized y.cls).before args s = true ∧ (y.cls ≠ "java/lang/invoke/MethodHandle" ∧ y.cls ≠ "java/lang/invoke/VarHandle") ∧
  (∀ sig, parseMethodDescriptor y.desc = some sig → n = sig.parameters.length) ∧ (Cond.methodLink own index y).before args s = true ∧ (Cond.instanceMethod y).before args s = true ∧ (Cond.selects C y y).before args s = true
theorem vx_cwVW {own C : String} {index maxL mc ms : Nat} {y : MethodName} {bytes : ByteArray} {ret : Option FieldType} {hh : List (Nat × Nat × Nat × Nat)} {Ts ws ws' : List Cond} {rm : Room} (n : Nat) (ht : ∀ w ∈ Ts, w.before args s = true) (hT : GoodIn Ts (wsV own index C y ws)) (hw : ws = Cond.codeWith y bytes maxL ret hh :: ws') (hrc : rm.cells = mc) (hrs : rm.slots = ms)
    (hd : y.cls = C ∧ y.cls ≠ "java/lang/invoke/MethodHandle" ∧ y.cls ≠ "java/lang/invoke/VarHandle" ∧ (parseMethodDescriptor y.desc).map (fun d => d.parameters.length) = some n) (hR : rm.frames + 1 ≤ R.frames ∧ 8 + (maxL + 11) + rm.locals ≤ R.locals) :
    vx_CVW R s args own C index y bytes maxL ret hh ws rm mc ms n := by
  obtain ⟨hC, hd⟩ := hd
  subst hC
  have ok : ∀ w ∈ wsV own index y.cls y ws, w.before args s = true := fun w h => ht w (hT w h).1
  have hG : GoodIn Ts ws := fun w h => hT w (by unfold wsV; exact List.mem_append_right _ h)
  have hc : Cond.codeWith y bytes maxL ret hh ∈ ws := by rw [hw]; exact List.mem_cons_self
  refine ⟨⟨hrc, hrs, hR.1, hR.2, pay_in ht hG, hc⟩, ht _ (hG _ hc).1, ok _ (by simp [wsV]), ⟨hd.1, hd.2.1⟩, fun sig h => ?_, ok _ (by simp [wsV]), ok _ (by simp [wsV]), ok _ (by simp [wsV])⟩
  have h2 := hd.2.2
  rw [h] at h2
  exact (Option.some.inj h2).symm
theorem vx_runVW {y : MethodName} {bytes cc : ByteArray} {maxL nL mc ms n index : Nat} {ret : Option FieldType} {hh : List (Nat × Nat × Nat × Nat)} {ws : List Cond} {rm : Room} {Pc : Array Value → State → Prop} {Qc : Array Value → State → Outcome → State → Prop} {free : Addr → Prop} {Ts : List Cond} {own C : String} {b : Addr} {As rest : List Value} {g : JFrame}
    (S : CallFix p m c cc nL s args Ts own) (hM : Met l y ws rm Pc Qc mc ms free) (cw : vx_CVW R s args own C index y bytes maxL ret hh ws rm mc ms n) (hp : PreV s H C b Pc As)
    (hg : g.method = m) (hn : As.length = n) (hsize : g.locals.size = nL) (hstack : g.stack = As.reverse ++ .ref b :: rest) (hW : 2 * g.monitorRoom + (rest.map fun v => v.category).sum ≤ 8) (hdg : decode cc g.pc = .ok (.invokevirtual index, 3)) (hf : cells + mc ≤ R.cells ∧ slots + ms ≤ R.slots) :
    va_Run p l e R s m args below meth c H locs cells slots mc ms g rest (Qc (Value.ref b :: As).toArray) free := by
  obtain ⟨⟨hrc, hrs, hfr, hlo, hws, hcw⟩, hcode, hini, hy, hlen, hl, hin, hse⟩ := cw
  have hK : Back l R p e below s args y 3 8 (PreOf R mc ms Pc) (PostOf Qc mc ms free) := va_backW (hh := hh) (bytes := bytes) (maxL := maxL) (ret := ret) hM hp.1 hrc hrs hfr hlo hws hcw (fun a' U hW => word_at hW (Or.inl (by first | rfl | simp [Cond.onTables, Cond.keeps, Cond.steady])) hini)
  obtain ⟨hx, hb, hml, ho, -⟩ := S
  obtain ⟨-, ⟨cellB, hcB, hoB, hclB⟩, hPc⟩ := hp
  intro T hT X
  obtain ⟨v, vm₁, ⟨U', l2, c2, s2⟩, hW₁, X', ⟨g', mk, t, L, e1, e2, hq, h1, hL, h2, h3⟩, st⟩ := vx_callVW X hx (C := C) (hh := hh) (bytes := bytes) (maxL := maxL) (ret := ret) ho hl hin hse hcode hy hK (by rw [hT]; exact hcB) hoB hclB hg (hsize.trans hml.symm) (argsL := As) (rest := rest) (fun sig h => hn.trans (hlen sig h)) hstack hW (by rw [hb]; exact hdg)
    (fun vm₁ hW₁ => ⟨hf.1, hf.2, hPc (T.setVm vm₁) hT hW₁⟩)
  dsimp only [Pt.U, Pt.locs, Pt.cells, Pt.slots] at X' e1 e2 h1 h2 h3 st
  subst h1; subst h2; subst h3
  exact ⟨v, (T.setVm vm₁).calling g' mk (Value.ref b :: As).toArray, t, U', L, hT, X', hL, e1, e2, hq, st⟩
section
variable {y : MethodName} {bytes cc : ByteArray} {maxL nL mc ms n index : Nat} {ret : Option FieldType} {ws : List Cond} {rm : Room} {Pc : Array Value → State → Prop} {Qc : Array Value → State → Outcome → State → Prop} {XC : String → State → State → Prop} {free : Addr → Prop} {Ts : List Cond} {own C : String} {b : Addr} {As rest : List Value} {g : JFrame}
theorem vx_runVX {hh : List (Nat × Nat × Nat × Nat)} (S : CallFix p m c cc nL s args Ts own) (hM : vx_Met l y ws rm Pc Qc XC mc ms free) (cw : vx_CVW R s args own C index y bytes maxL ret hh ws rm mc ms n) (hp : PreV s H C b Pc As)
    (hg : g.method = m) (hn : As.length = n) (hsize : g.locals.size = nL) (hstack : g.stack = As.reverse ++ .ref b :: rest) (hW : 2 * g.monitorRoom + (rest.map fun v => v.category).sum ≤ 8) (hdg : decode cc g.pc = .ok (.invokevirtual index, 3)) (hf : cells + mc ≤ R.cells ∧ slots + ms ≤ R.slots) :
    vx_Run p l e R s m args below meth c H locs cells slots mc ms g rest (Qc (Value.ref b :: As).toArray) XC free := by
  obtain ⟨⟨hrc, hrs, hfr, hlo, hws, hcw⟩, hcode, hini, hy, hlen, hl, hin, hse⟩ := cw
  have hK : vx_Back l R p e below s args y 3 8 (PreOf R mc ms Pc) (PostOf Qc mc ms free) (vx_Post XC mc ms free) := vx_backW (hh := hh) (bytes := bytes) (maxL := maxL) (ret := ret) hM hp.1 hrc hrs hfr hlo hws hcw (fun a' U hW => word_at hW (Or.inl (by first | rfl | simp [Cond.onTables, Cond.keeps, Cond.steady])) hini)
  obtain ⟨hx, hb, hml, ho, -⟩ := S
  obtain ⟨-, ⟨cellB, hcB, hoB, hclB⟩, hPc⟩ := hp
  intro T hT X
  rcases vx_callVX X hx (C := C) (hh := hh) (bytes := bytes) (maxL := maxL) (ret := ret) ho hl hin hse hcode hy hK (by rw [hT]; exact hcB) hoB hclB hg (hsize.trans hml.symm) (argsL := As) (rest := rest) (fun sig h => hn.trans (hlen sig h)) hstack hW (by rw [hb]; exact hdg)
    (fun vm₁ hW₁ => ⟨hf.1, hf.2, hPc (T.setVm vm₁) hT hW₁⟩) with ⟨v, vm₁, ⟨U', l2, c2, s2⟩, hW₁, X', ⟨g', mk, t, L, e1, e2, hq, h1, hL, h2, h3⟩, st⟩ | ⟨q, vm₁, ⟨U', l2, c2, s2⟩, hW₁, X', ⟨g', mk, t, L, E, ce, e1, e2, hq, hce, hcv, hcl, h1, hL, h2, h3⟩, st⟩
  · dsimp only [Pt.U, Pt.locs, Pt.cells, Pt.slots] at X' e1 e2 h1 h2 h3 st
    subst h1; subst h2; subst h3
    exact Or.inl ⟨v, (T.setVm vm₁).calling g' mk (Value.ref b :: As).toArray, t, U', L, hT, X', hL, e1, e2, hq, st⟩
  · dsimp only [Pt.U, Pt.locs, Pt.cells, Pt.slots] at X' e1 e2 h1 h2 h3 st hcl
    subst h1; subst h2; subst h3
    exact Or.inr ⟨q, (T.setVm vm₁).calling g' mk (Value.ref b :: As).toArray, t, U', L, E, ce, hT, X', hL, e1, e2, hq, hce, hcv, vx_cls hW₁ hcl, st⟩
theorem vx_runSX {hh : List (Nat × Nat × Nat × Nat)} (S : CallFix p m c cc nL s args Ts own) (hM : vx_Met l y ws rm Pc Qc XC mc ms free) (cw : vx_CSW R s args own index y bytes maxL ret hh ws rm mc ms n) (hp : PreS s H Pc As)
    (hg : g.method = m) (hn : As.length = n) (hsize : g.locals.size = nL) (hstack : g.stack = As.reverse ++ rest) (hW : 2 * g.monitorRoom + (rest.map fun v => v.category).sum ≤ 8) (hdg : decode cc g.pc = .ok (.invokestatic index, 3)) (hf : cells + mc ≤ R.cells ∧ slots + ms ≤ R.slots) :
    vx_Run p l e R s m args below meth c H locs cells slots mc ms g rest (Qc As.toArray) XC free := by
  obtain ⟨⟨hrc, hrs, hfr, hlo, hws, hcw⟩, hcode, hini, hy, hlen, hl, hstt⟩ := cw
  have hK : vx_Back l R p e below s args y 3 8 (PreOf R mc ms Pc) (PostOf Qc mc ms free) (vx_Post XC mc ms free) := vx_backW (hh := hh) (bytes := bytes) (maxL := maxL) (ret := ret) hM hp.1 hrc hrs hfr hlo hws hcw (fun a' U hW => word_at hW (Or.inl (by first | rfl | simp [Cond.onTables, Cond.keeps, Cond.steady])) hini)
  obtain ⟨hx, hb, hml, ho, -⟩ := S
  intro T hT X
  rcases vx_callSX X hx (hh := hh) (bytes := bytes) (maxL := maxL) (ret := ret) ho hl hstt hini hcode hy hK hg (hsize.trans hml.symm) (argsL := As) (rest := rest) (fun sig h => hn.trans (hlen sig h)) hstack hW (by rw [hb]; exact hdg)
    (fun vm₁ hW₁ => ⟨hf.1, hf.2, hp.2 (T.setVm vm₁) hT hW₁⟩) with ⟨v, vm₁, ⟨U', l2, c2, s2⟩, hW₁, X', ⟨g', mk, t, L, e1, e2, hq, h1, hL, h2, h3⟩, st⟩ | ⟨q, vm₁, ⟨U', l2, c2, s2⟩, hW₁, X', ⟨g', mk, t, L, E, ce, e1, e2, hq, hce, hcv, hcl, h1, hL, h2, h3⟩, st⟩
  · dsimp only [Pt.U, Pt.locs, Pt.cells, Pt.slots] at X' e1 e2 h1 h2 h3 st
    subst h1; subst h2; subst h3
    exact Or.inl ⟨v, (T.setVm vm₁).calling g' mk As.toArray, t, U', L, hT, X', hL, e1, e2, hq, st⟩
  · dsimp only [Pt.U, Pt.locs, Pt.cells, Pt.slots] at X' e1 e2 h1 h2 h3 st hcl
    subst h1; subst h2; subst h3
    exact Or.inr ⟨q, (T.setVm vm₁).calling g' mk As.toArray, t, U', L, E, ce, hT, X', hL, e1, e2, hq, hce, hcv, vx_cls hW₁ hcl, st⟩
end
end VXH
theorem vx_ofWH {l : Launch} {y : MethodName} {ws ws' : List Cond} {rm : Room} {Pc : Array Value → State → Prop} {Qc : Array Value → State → Outcome → State → Prop} {XC : String → State → State → Prop} {mc ms : Nat} {free : Addr → Prop} {cc : ByteArray} {maxL : Nat} {ret : Option FieldType} {hh : List (Nat × Nat × Nat × Nat)}
    (hy : plainName y.cls = true) (hw : ws = Cond.codeWith y cc maxL ret hh :: ws')
    (body : ∀ p e s m args below meth c s₁, BodyLoose p l y (headSpec ws rm) cc maxL ret e s m args below meth c s₁ → c.maxLocals = maxL → Pc args s →
      W p l e (headSpec ws rm).room s m args below meth c s.heap [] 0 0 (vx_MQ below Qc XC args s mc ms free) (entryFrame m args maxL)) : vx_Met l y ws rm Pc Qc XC mc ms free := by
  refine MetFree.of_bodyS (code := cc) (maxLocals := maxL) (ret := ret) hy ?_ ?_
  · intro args s m h hn
    obtain ⟨m9, meth, c, hn9, h1, h2, h3, h4, -, h5, h6, -⟩ := Cond.codeWith_spec (atoms_spec (ws := ws) h _ (by rw [hw]; exact List.mem_cons_self))
    cases hn.symm.trans hn9
    exact ⟨meth, c, h1, h2, h3, h4, h5, h6⟩
  · intro p e s m args below meth c s₁ B hml hP _
    have hh0 : s₁.heap = s.heap := by rw [B.state]; rfl
    obtain ⟨t, a1, o, b1, b2, b3⟩ := body p e s m args below meth c s₁ B hml hP s₁ hh0 (Stand.of_body B)
    exact ⟨t, o, a1, b1, b2, b3⟩
/-! ===== END ===== -/
end
section
def RX0 : String := "KernLessons$Buffer"
def TX0 : u_T := fun k => match k with
  | 0 => ("KernLessons$Buffer", "codes", "[I", true)
  | _ => ("KernLessons$Buffer", "length", "I", false)
def tyX0 : Nat → FieldType := fun k => match k with
  | 0 => .array .int
  | _ => .int
abbrev wsX00 : List Cond := u_ws RX0 TX0 2
theorem nmX0 : ∀ a, a < 2 → ∀ b, b < 2 → a ≠ b → (TX0 a).2.1 ≠ (TX0 b).2.1 := by decide +kernel
theorem tyX0_ok : ∀ k, k < 2 → parseFieldDescriptor (TX0 k).2.2.1 = some (tyX0 k) := by decide +kernel
abbrev cX0_init : ByteArray := prog_2_method_1_code
def yX0_init : MethodName := ⟨RX0, "<init>", "()V"⟩
abbrev cX0_hasLetterAt : ByteArray := prog_2_method_2_code
def yX0_hasLetterAt : MethodName := ⟨RX0, "hasLetterAt", "(I)Z"⟩
abbrev cX0_hasPairAt : ByteArray := prog_2_method_3_code
def yX0_hasPairAt : MethodName := ⟨RX0, "hasPairAt", "(I)Z"⟩
abbrev cX0_letterAt : ByteArray := prog_2_method_4_code
def yX0_letterAt : MethodName := ⟨RX0, "letterAt", "(I)I"⟩
abbrev cX0_pairAt : ByteArray := prog_2_method_5_code
def yX0_pairAt : MethodName := ⟨RX0, "pairAt", "(I)I"⟩
abbrev cX0_firstWrongPlace : ByteArray := prog_2_method_6_code
def yX0_firstWrongPlace : MethodName := ⟨RX0, "firstWrongPlace", "()I"⟩
abbrev cX0_tellsText : ByteArray := prog_2_method_7_code
def yX0_tellsText : MethodName := ⟨RX0, "tellsText", "()Z"⟩
def RX1 : String := "KernLessons$Measure"
def TX1 : u_T := fun k => match k with
  | 0 => ("KernLessons$Measure", "lettersFound", "[I", true)
  | 1 => ("KernLessons$Measure", "pairsFound", "[I", true)
  | 2 => ("KernLessons$Measure", "wordWidths", "[I", true)
  | 3 => ("KernLessons$Measure", "linesFrom", "[I", true)
  | _ => ("KernLessons$Measure", "words", "I", false)
def tyX1 : Nat → FieldType := fun k => match k with
  | 0 => .array .int
  | 1 => .array .int
  | 2 => .array .int
  | 3 => .array .int
  | _ => .int
abbrev wsX10 : List Cond := u_ws RX1 TX1 5
theorem nmX1 : ∀ a, a < 5 → ∀ b, b < 5 → a ≠ b → (TX1 a).2.1 ≠ (TX1 b).2.1 := by decide +kernel
theorem tyX1_ok : ∀ k, k < 5 → parseFieldDescriptor (TX1 k).2.2.1 = some (tyX1 k) := by decide +kernel
abbrev cX1_init : ByteArray := prog_3_method_1_code
def yX1_init : MethodName := ⟨RX1, "<init>", "()V"⟩
abbrev cX1_widthAt : ByteArray := prog_3_method_2_code
def yX1_widthAt : MethodName := ⟨RX1, "widthAt", "(LKernLessons$State;LKernLessons$Buffer;I)I"⟩
abbrev cX1_widthByPlaces : ByteArray := prog_3_method_3_code
def yX1_widthByPlaces : MethodName := ⟨RX1, "widthByPlaces", "(LKernLessons$State;LKernLessons$Buffer;)I"⟩
abbrev cX1_widthByCounts : ByteArray := prog_3_method_4_code
def yX1_widthByCounts : MethodName := ⟨RX1, "widthByCounts", "(LKernLessons$State;LKernLessons$Buffer;)I"⟩
abbrev cX1_findWords : ByteArray := prog_3_method_5_code
def yX1_findWords : MethodName := ⟨RX1, "findWords", "(LKernLessons$State;LKernLessons$Buffer;)V"⟩
abbrev cX1_widestWord : ByteArray := prog_3_method_6_code
def yX1_widestWord : MethodName := ⟨RX1, "widestWord", "()I"⟩
abbrev cX1_linesByFilling : ByteArray := prog_3_method_7_code
def yX1_linesByFilling : MethodName := ⟨RX1, "linesByFilling", "(LKernLessons$State;)I"⟩
abbrev cX1_linesFromBehind : ByteArray := prog_3_method_8_code
def yX1_linesFromBehind : MethodName := ⟨RX1, "linesFromBehind", "(LKernLessons$State;)I"⟩
def RX2 : String := "KernLessons$State"
def TX2 : u_T := fun k => match k with
  | 0 => ("KernLessons$State", "widths", "[I", true)
  | 1 => ("KernLessons$State", "lefts", "[I", true)
  | 2 => ("KernLessons$State", "rights", "[I", true)
  | 3 => ("KernLessons$State", "bases", "[I", true)
  | 4 => ("KernLessons$State", "settings", "[I", true)
  | 5 => ("KernLessons$State", "lessonPairs", "[I", true)
  | 6 => ("KernLessons$State", "lessonTolds", "[I", true)
  | 7 => ("KernLessons$State", "lessons", "I", false)
  | 8 => ("KernLessons$State", "table", "LKernLessons$Table;", true)
  | 9 => ("KernLessons$State", "refused", "I", false)
  | 10 => ("KernLessons$State", "forgotten", "I", false)
  | _ => ("KernLessons$State", "goneThrough", "I", false)
def tyX2 : Nat → FieldType := fun k => match k with
  | 0 => .array .int
  | 1 => .array .int
  | 2 => .array .int
  | 3 => .array .int
  | 4 => .array .int
  | 5 => .array .int
  | 6 => .array .int
  | 7 => .int
  | 8 => .object "KernLessons$Table"
  | 9 => .int
  | 10 => .int
  | _ => .int
abbrev wsX20 : List Cond := u_ws RX2 TX2 12
theorem nmX2 : ∀ a, a < 12 → ∀ b, b < 12 → a ≠ b → (TX2 a).2.1 ≠ (TX2 b).2.1 := by decide +kernel
theorem tyX2_ok : ∀ k, k < 12 → parseFieldDescriptor (TX2 k).2.2.1 = some (tyX2 k) := by decide +kernel
abbrev cX2_init : ByteArray := prog_4_method_1_code
def yX2_init : MethodName := ⟨RX2, "<init>", "()V"⟩
abbrev cX2_becomeLike : ByteArray := prog_4_method_2_code
def yX2_becomeLike : MethodName := ⟨RX2, "becomeLike", "(LKernLessons$State;)V"⟩
abbrev cX2_shapesOfPair : ByteArray := prog_4_method_3_code
def yX2_shapesOfPair : MethodName := ⟨RX2, "shapesOfPair", "(I)I"⟩
abbrev cX2_goThroughAgain : ByteArray := prog_4_method_4_code
def yX2_goThroughAgain : MethodName := ⟨RX2, "goThroughAgain", "()V"⟩
abbrev cX2_addLesson : ByteArray := prog_4_method_5_code
def yX2_addLesson : MethodName := ⟨RX2, "addLesson", "(II)V"⟩
abbrev cX2_dropLesson : ByteArray := prog_4_method_6_code
def yX2_dropLesson : MethodName := ⟨RX2, "dropLesson", "(I)V"⟩
abbrev cX2_lessonsWithLetter : ByteArray := prog_4_method_7_code
def yX2_lessonsWithLetter : MethodName := ⟨RX2, "lessonsWithLetter", "(I)I"⟩
abbrev cX2_idleLessons : ByteArray := prog_4_method_8_code
def yX2_idleLessons : MethodName := ⟨RX2, "idleLessons", "()I"⟩
abbrev cX2_pairsWithShapes : ByteArray := prog_4_method_9_code
def yX2_pairsWithShapes : MethodName := ⟨RX2, "pairsWithShapes", "(I)I"⟩
abbrev cX2_learntPairsWithShapes : ByteArray := prog_4_method_10_code
def yX2_learntPairsWithShapes : MethodName := ⟨RX2, "learntPairsWithShapes", "(I)I"⟩
abbrev cX2_shapesOffTheirBase : ByteArray := prog_4_method_11_code
def yX2_shapesOffTheirBase : MethodName := ⟨RX2, "shapesOffTheirBase", "()I"⟩
def RX3 : String := "KernLessons$Table"
def TX3 : u_T := fun k => match k with
  | 0 => ("KernLessons$Table", "shapeKernings", "[I", true)
  | 1 => ("KernLessons$Table", "own", "[I", true)
  | 2 => ("KernLessons$Table", "steps", "[I", true)
  | 3 => ("KernLessons$Table", "tolds", "[I", true)
  | 4 => ("KernLessons$Table", "learnt", "[I", true)
  | 5 => ("KernLessons$Table", "learntPairs", "[I", true)
  | 6 => ("KernLessons$Table", "pairsLearnt", "I", false)
  | _ => ("KernLessons$Table", "idle", "[I", true)
def tyX3 : Nat → FieldType := fun k => match k with
  | 0 => .array .int
  | 1 => .array .int
  | 2 => .array .int
  | 3 => .array .int
  | 4 => .array .int
  | 5 => .array .int
  | 6 => .int
  | _ => .array .int
abbrev wsX30 : List Cond := u_ws RX3 TX3 8
theorem nmX3 : ∀ a, a < 8 → ∀ b, b < 8 → a ≠ b → (TX3 a).2.1 ≠ (TX3 b).2.1 := by decide +kernel
theorem tyX3_ok : ∀ k, k < 8 → parseFieldDescriptor (TX3 k).2.2.1 = some (tyX3 k) := by decide +kernel
abbrev cX3_init : ByteArray := prog_5_method_1_code
def yX3_init : MethodName := ⟨RX3, "<init>", "()V"⟩
abbrev cX3_becomeLike : ByteArray := prog_5_method_2_code
def yX3_becomeLike : MethodName := ⟨RX3, "becomeLike", "(LKernLessons$Table;)V"⟩
abbrev cX3_kerningOfPair : ByteArray := prog_5_method_3_code
def yX3_kerningOfPair : MethodName := ⟨RX3, "kerningOfPair", "(LKernLessons$State;I)I"⟩
abbrev cX3_learnAllBut : ByteArray := prog_5_method_4_code
def yX3_learnAllBut : MethodName := ⟨RX3, "learnAllBut", "(LKernLessons$State;I)V"⟩
abbrev cX3_learn : ByteArray := prog_5_method_5_code
def yX3_learn : MethodName := ⟨RX3, "learn", "(LKernLessons$State;II)Z"⟩
abbrev cX3_moveShapes : ByteArray := prog_5_method_6_code
def yX3_moveShapes : MethodName := ⟨RX3, "moveShapes", "(LKernLessons$State;II)V"⟩
abbrev cX3_pairsThatAgree : ByteArray := prog_5_method_7_code
def yX3_pairsThatAgree : MethodName := ⟨RX3, "pairsThatAgree", "(LKernLessons$State;II)I"⟩
def RX4 : String := "KernLessons"
def TX4 : u_T := fun k => match k with
  | 0 => ("KernLessons", "now", "LKernLessons$State;", true)
  | 1 => ("KernLessons", "saved", "[LKernLessons$State;", true)
  | 2 => ("KernLessons", "savedCount", "I", false)
  | 3 => ("KernLessons", "slots", "[LKernLessons$State;", true)
  | 4 => ("KernLessons", "slotFilled", "[Z", true)
  | 5 => ("KernLessons", "buffer", "LKernLessons$Buffer;", true)
  | 6 => ("KernLessons", "trial", "LKernLessons$Table;", true)
  | 7 => ("KernLessons", "pairsOtherwise", "[I", true)
  | _ => ("KernLessons", "measure", "LKernLessons$Measure;", true)
def tyX4 : Nat → FieldType := fun k => match k with
  | 0 => .object "KernLessons$State"
  | 1 => .array (.object "KernLessons$State")
  | 2 => .int
  | 3 => .array (.object "KernLessons$State")
  | 4 => .array .boolean
  | 5 => .object "KernLessons$Buffer"
  | 6 => .object "KernLessons$Table"
  | 7 => .array .int
  | _ => .object "KernLessons$Measure"
abbrev wsX40 : List Cond := u_ws RX4 TX4 9
theorem nmX4 : ∀ a, a < 9 → ∀ b, b < 9 → a ≠ b → (TX4 a).2.1 ≠ (TX4 b).2.1 := by decide +kernel
theorem tyX4_ok : ∀ k, k < 9 → parseFieldDescriptor (TX4 k).2.2.1 = some (tyX4 k) := by decide +kernel
abbrev cX4_init : ByteArray := prog_1_method_1_code
def yX4_init : MethodName := ⟨RX4, "<init>", "()V"⟩
abbrev cX4_width : ByteArray := prog_1_method_2_code
def yX4_width : MethodName := ⟨RX4, "width", "(II)I"⟩
abbrev cX4_shape : ByteArray := prog_1_method_3_code
def yX4_shape : MethodName := ⟨RX4, "shape", "(III)I"⟩
abbrev cX4_base : ByteArray := prog_1_method_4_code
def yX4_base : MethodName := ⟨RX4, "base", "(III)I"⟩
abbrev cX4_set : ByteArray := prog_1_method_5_code
def yX4_set : MethodName := ⟨RX4, "set", "(II)I"⟩
abbrev cX4_circle : ByteArray := prog_1_method_6_code
def yX4_circle : MethodName := ⟨RX4, "circle", "(III)I"⟩
abbrev cX4_forget : ByteArray := prog_1_method_7_code
def yX4_forget : MethodName := ⟨RX4, "forget", "(I)I"⟩
abbrev cX4_append : ByteArray := prog_1_method_8_code
def yX4_append : MethodName := ⟨RX4, "append", "(I)I"⟩
abbrev cX4_clearBuffer : ByteArray := prog_1_method_9_code
def yX4_clearBuffer : MethodName := ⟨RX4, "clearBuffer", "()I"⟩
abbrev cX4_firstError : ByteArray := prog_1_method_10_code
def yX4_firstError : MethodName := ⟨RX4, "firstError", "()I"⟩
abbrev cX4_circleAt : ByteArray := prog_1_method_11_code
def yX4_circleAt : MethodName := ⟨RX4, "circleAt", "(II)I"⟩
abbrev cX4_keep : ByteArray := prog_1_method_12_code
def yX4_keep : MethodName := ⟨RX4, "keep", "(I)I"⟩
abbrev cX4_goBack : ByteArray := prog_1_method_13_code
def yX4_goBack : MethodName := ⟨RX4, "goBack", "(I)I"⟩
abbrev cX4_undo : ByteArray := prog_1_method_14_code
def yX4_undo : MethodName := ⟨RX4, "undo", "()I"⟩
abbrev cX4_letterOf : ByteArray := prog_1_method_15_code
def yX4_letterOf : MethodName := ⟨RX4, "letterOf", "(II)I"⟩
abbrev cX4_pairOf : ByteArray := prog_1_method_16_code
def yX4_pairOf : MethodName := ⟨RX4, "pairOf", "(III)I"⟩
abbrev cX4_shapesOf : ByteArray := prog_1_method_17_code
def yX4_shapesOf : MethodName := ⟨RX4, "shapesOf", "(III)I"⟩
abbrev cX4_lessonOf : ByteArray := prog_1_method_18_code
def yX4_lessonOf : MethodName := ⟨RX4, "lessonOf", "(II)I"⟩
abbrev cX4_count : ByteArray := prog_1_method_19_code
def yX4_count : MethodName := ⟨RX4, "count", "(I)I"⟩
abbrev cX4_setting : ByteArray := prog_1_method_20_code
def yX4_setting : MethodName := ⟨RX4, "setting", "(I)I"⟩
abbrev cX4_text : ByteArray := prog_1_method_21_code
def yX4_text : MethodName := ⟨RX4, "text", "(I)I"⟩
abbrev cX4_ifCircled : ByteArray := prog_1_method_22_code
def yX4_ifCircled : MethodName := ⟨RX4, "ifCircled", "(III)I"⟩
abbrev cX4_ifForgotten : ByteArray := prog_1_method_23_code
def yX4_ifForgotten : MethodName := ⟨RX4, "ifForgotten", "(I)I"⟩
abbrev cX4_mainLesson : ByteArray := prog_1_method_24_code
def yX4_mainLesson : MethodName := ⟨RX4, "mainLesson", "()I"⟩
abbrev cX4_tightShare : ByteArray := prog_1_method_25_code
def yX4_tightShare : MethodName := ⟨RX4, "tightShare", "()D"⟩
abbrev cX4_digest : ByteArray := prog_1_method_26_code
def yX4_digest : MethodName := ⟨RX4, "digest", "()J"⟩
abbrev cX4_checkLetter : ByteArray := prog_1_method_27_code
def yX4_checkLetter : MethodName := ⟨RX4, "checkLetter", "(I)V"⟩
abbrev cX4_checkIndex : ByteArray := prog_1_method_28_code
def yX4_checkIndex : MethodName := ⟨RX4, "checkIndex", "(II)V"⟩
abbrev cX4_checkRange : ByteArray := prog_1_method_29_code
def yX4_checkRange : MethodName := ⟨RX4, "checkRange", "(III)V"⟩
abbrev cX4_checkTold : ByteArray := prog_1_method_30_code
def yX4_checkTold : MethodName := ⟨RX4, "checkTold", "(I)V"⟩
abbrev cX4_saveState : ByteArray := prog_1_method_31_code
def yX4_saveState : MethodName := ⟨RX4, "saveState", "()V"⟩
abbrev cX4_learnCircle : ByteArray := prog_1_method_32_code
def yX4_learnCircle : MethodName := ⟨RX4, "learnCircle", "(II)I"⟩
abbrev cX4_pairsOtherwiseWithout : ByteArray := prog_1_method_33_code
def yX4_pairsOtherwiseWithout : MethodName := ⟨RX4, "pairsOtherwiseWithout", "(I)I"⟩
abbrev cX4_findPairsOtherwise : ByteArray := prog_1_method_34_code
def yX4_findPairsOtherwise : MethodName := ⟨RX4, "findPairsOtherwise", "()V"⟩
abbrev cX4_lessonWithMostOtherwise : ByteArray := prog_1_method_35_code
def yX4_lessonWithMostOtherwise : MethodName := ⟨RX4, "lessonWithMostOtherwise", "()I"⟩
abbrev cX4_hashWith : ByteArray := prog_1_method_36_code
def yX4_hashWith : MethodName := ⟨RX4, "hashWith", "(JJ)J"⟩
abbrev cX4_hashCountsAndSettings : ByteArray := prog_1_method_37_code
def yX4_hashCountsAndSettings : MethodName := ⟨RX4, "hashCountsAndSettings", "(J)J"⟩
abbrev cX4_hashLetters : ByteArray := prog_1_method_38_code
def yX4_hashLetters : MethodName := ⟨RX4, "hashLetters", "(J)J"⟩
abbrev cX4_hashPairs : ByteArray := prog_1_method_39_code
def yX4_hashPairs : MethodName := ⟨RX4, "hashPairs", "(J)J"⟩
abbrev cX4_hashShapes : ByteArray := prog_1_method_40_code
def yX4_hashShapes : MethodName := ⟨RX4, "hashShapes", "(J)J"⟩
abbrev cX4_hashLessons : ByteArray := prog_1_method_41_code
def yX4_hashLessons : MethodName := ⟨RX4, "hashLessons", "(J)J"⟩
abbrev cX4_bitsOfShare : ByteArray := prog_1_method_42_code
def yX4_bitsOfShare : MethodName := ⟨RX4, "bitsOfShare", "(D)J"⟩
def RX5 : String := "KernLessonsModel"
def TX5 : u_T := fun k => match k with
  | 0 => ("KernLessonsModel", "s", "[I", true)
  | 1 => ("KernLessonsModel", "saved", "[I", true)
  | 2 => ("KernLessonsModel", "savedMany", "I", false)
  | 3 => ("KernLessonsModel", "slots", "[I", true)
  | 4 => ("KernLessonsModel", "isKept", "[Z", true)
  | 5 => ("KernLessonsModel", "before", "[I", true)
  | 6 => ("KernLessonsModel", "text", "[I", true)
  | 7 => ("KernLessonsModel", "length", "I", false)
  | 8 => ("KernLessonsModel", "thrown", "I", false)
  | 9 => ("KernLessonsModel", "kerning", "[I", true)
  | 10 => ("KernLessonsModel", "own", "[I", true)
  | 11 => ("KernLessonsModel", "step", "[I", true)
  | 12 => ("KernLessonsModel", "told", "[I", true)
  | 13 => ("KernLessonsModel", "learnt", "[I", true)
  | 14 => ("KernLessonsModel", "isIdle", "[Z", true)
  | 15 => ("KernLessonsModel", "had", "[I", true)
  | _ => ("KernLessonsModel", "hash", "J", false)
def tyX5 : Nat → FieldType := fun k => match k with
  | 0 => .array .int
  | 1 => .array .int
  | 2 => .int
  | 3 => .array .int
  | 4 => .array .boolean
  | 5 => .array .int
  | 6 => .array .int
  | 7 => .int
  | 8 => .int
  | 9 => .array .int
  | 10 => .array .int
  | 11 => .array .int
  | 12 => .array .int
  | 13 => .array .int
  | 14 => .array .boolean
  | 15 => .array .int
  | _ => .long
abbrev wsX50 : List Cond := u_ws RX5 TX5 17
theorem nmX5 : ∀ a, a < 17 → ∀ b, b < 17 → a ≠ b → (TX5 a).2.1 ≠ (TX5 b).2.1 := by decide +kernel
theorem tyX5_ok : ∀ k, k < 17 → parseFieldDescriptor (TX5 k).2.2.1 = some (tyX5 k) := by decide +kernel
abbrev cX5_init : ByteArray := prog_7_method_1_code
def yX5_init : MethodName := ⟨RX5, "<init>", "()V"⟩
abbrev cX5_thrown : ByteArray := prog_7_method_2_code
def yX5_thrown : MethodName := ⟨RX5, "thrown", "()I"⟩
abbrev cX5_holds : ByteArray := prog_7_method_3_code
def yX5_holds : MethodName := ⟨RX5, "holds", "(I)Z"⟩
abbrev cX5_in : ByteArray := prog_7_method_4_code
def yX5_in : MethodName := ⟨RX5, "in", "(III)Z"⟩
abbrev cX5_isLetter : ByteArray := prog_7_method_5_code
def yX5_isLetter : MethodName := ⟨RX5, "isLetter", "(I)Z"⟩
abbrev cX5_isShape : ByteArray := prog_7_method_6_code
def yX5_isShape : MethodName := ⟨RX5, "isShape", "(I)Z"⟩
abbrev cX5_isTold : ByteArray := prog_7_method_7_code
def yX5_isTold : MethodName := ⟨RX5, "isTold", "(I)Z"⟩
abbrev cX5_isSlot : ByteArray := prog_7_method_8_code
def yX5_isSlot : MethodName := ⟨RX5, "isSlot", "(I)Z"⟩
abbrev cX5_isLesson : ByteArray := prog_7_method_9_code
def yX5_isLesson : MethodName := ⟨RX5, "isLesson", "(I)Z"⟩
abbrev cX5_of : ByteArray := prog_7_method_10_code
def yX5_of : MethodName := ⟨RX5, "of", "(II)I"⟩
abbrev cX5_put : ByteArray := prog_7_method_11_code
def yX5_put : MethodName := ⟨RX5, "put", "(III)V"⟩
abbrev cX5_ofLesson : ByteArray := prog_7_method_12_code
def yX5_ofLesson : MethodName := ⟨RX5, "ofLesson", "(II)I"⟩
abbrev cX5_meeting : ByteArray := prog_7_method_13_code
def yX5_meeting : MethodName := ⟨RX5, "meeting", "(I)I"⟩
abbrev cX5_copy : ByteArray := prog_7_method_14_code
def yX5_copy : MethodName := ⟨RX5, "copy", "([II[II)V"⟩
abbrev cX5_save : ByteArray := prog_7_method_15_code
def yX5_save : MethodName := ⟨RX5, "save", "()V"⟩
abbrev cX5_kerningOf : ByteArray := prog_7_method_16_code
def yX5_kerningOf : MethodName := ⟨RX5, "kerningOf", "(I)I"⟩
abbrev cX5_within : ByteArray := prog_7_method_17_code
def yX5_within : MethodName := ⟨RX5, "within", "(I)I"⟩
abbrev cX5_isAtEnd : ByteArray := prog_7_method_18_code
def yX5_isAtEnd : MethodName := ⟨RX5, "isAtEnd", "(II)Z"⟩
abbrev cX5_learnShapes : ByteArray := prog_7_method_19_code
def yX5_learnShapes : MethodName := ⟨RX5, "learnShapes", "(II)V"⟩
abbrev cX5_learn : ByteArray := prog_7_method_20_code
def yX5_learn : MethodName := ⟨RX5, "learn", "(I)V"⟩
abbrev cX5_learnAll : ByteArray := prog_7_method_21_code
def yX5_learnAll : MethodName := ⟨RX5, "learnAll", "()V"⟩
abbrev cX5_noteKernings : ByteArray := prog_7_method_22_code
def yX5_noteKernings : MethodName := ⟨RX5, "noteKernings", "()V"⟩
abbrev cX5_otherKernings : ByteArray := prog_7_method_23_code
def yX5_otherKernings : MethodName := ⟨RX5, "otherKernings", "()I"⟩
abbrev cX5_isRefused : ByteArray := prog_7_method_24_code
def yX5_isRefused : MethodName := ⟨RX5, "isRefused", "(II)Z"⟩
abbrev cX5_add : ByteArray := prog_7_method_25_code
def yX5_add : MethodName := ⟨RX5, "add", "(II)V"⟩
abbrev cX5_circles : ByteArray := prog_7_method_26_code
def yX5_circles : MethodName := ⟨RX5, "circles", "(II)I"⟩
abbrev cX5_drops : ByteArray := prog_7_method_27_code
def yX5_drops : MethodName := ⟨RX5, "drops", "(I)I"⟩
abbrev cX5_width : ByteArray := prog_7_method_28_code
def yX5_width : MethodName := ⟨RX5, "width", "(II)I"⟩
abbrev cX5_shape : ByteArray := prog_7_method_29_code
def yX5_shape : MethodName := ⟨RX5, "shape", "(III)I"⟩
abbrev cX5_base : ByteArray := prog_7_method_30_code
def yX5_base : MethodName := ⟨RX5, "base", "(III)I"⟩
abbrev cX5_fits : ByteArray := prog_7_method_31_code
def yX5_fits : MethodName := ⟨RX5, "fits", "(II)Z"⟩
abbrev cX5_set : ByteArray := prog_7_method_32_code
def yX5_set : MethodName := ⟨RX5, "set", "(II)I"⟩
abbrev cX5_circle : ByteArray := prog_7_method_33_code
def yX5_circle : MethodName := ⟨RX5, "circle", "(III)I"⟩
abbrev cX5_forget : ByteArray := prog_7_method_34_code
def yX5_forget : MethodName := ⟨RX5, "forget", "(I)I"⟩
abbrev cX5_append : ByteArray := prog_7_method_35_code
def yX5_append : MethodName := ⟨RX5, "append", "(I)I"⟩
abbrev cX5_clearBuffer : ByteArray := prog_7_method_36_code
def yX5_clearBuffer : MethodName := ⟨RX5, "clearBuffer", "()I"⟩
abbrev cX5_isWritten : ByteArray := prog_7_method_37_code
def yX5_isWritten : MethodName := ⟨RX5, "isWritten", "(I)Z"⟩
abbrev cX5_errorPlace : ByteArray := prog_7_method_38_code
def yX5_errorPlace : MethodName := ⟨RX5, "errorPlace", "()I"⟩
abbrev cX5_firstError : ByteArray := prog_7_method_39_code
def yX5_firstError : MethodName := ⟨RX5, "firstError", "()I"⟩
abbrev cX5_isText : ByteArray := prog_7_method_40_code
def yX5_isText : MethodName := ⟨RX5, "isText", "()Z"⟩
abbrev cX5_pairAt : ByteArray := prog_7_method_41_code
def yX5_pairAt : MethodName := ⟨RX5, "pairAt", "(I)I"⟩
abbrev cX5_circleAt : ByteArray := prog_7_method_42_code
def yX5_circleAt : MethodName := ⟨RX5, "circleAt", "(II)I"⟩
abbrev cX5_keep : ByteArray := prog_7_method_43_code
def yX5_keep : MethodName := ⟨RX5, "keep", "(I)I"⟩
abbrev cX5_goBack : ByteArray := prog_7_method_44_code
def yX5_goBack : MethodName := ⟨RX5, "goBack", "(I)I"⟩
abbrev cX5_undo : ByteArray := prog_7_method_45_code
def yX5_undo : MethodName := ⟨RX5, "undo", "()I"⟩
abbrev cX5_lessonsWith : ByteArray := prog_7_method_46_code
def yX5_lessonsWith : MethodName := ⟨RX5, "lessonsWith", "(I)I"⟩
abbrev cX5_letterTold : ByteArray := prog_7_method_47_code
def yX5_letterTold : MethodName := ⟨RX5, "letterTold", "(II)I"⟩
abbrev cX5_letterOf : ByteArray := prog_7_method_48_code
def yX5_letterOf : MethodName := ⟨RX5, "letterOf", "(II)I"⟩
abbrev cX5_pairTold : ByteArray := prog_7_method_49_code
def yX5_pairTold : MethodName := ⟨RX5, "pairTold", "(II)I"⟩
abbrev cX5_pairOf : ByteArray := prog_7_method_50_code
def yX5_pairOf : MethodName := ⟨RX5, "pairOf", "(III)I"⟩
abbrev cX5_pairsAt : ByteArray := prog_7_method_51_code
def yX5_pairsAt : MethodName := ⟨RX5, "pairsAt", "(IZ)I"⟩
abbrev cX5_shapesTold : ByteArray := prog_7_method_52_code
def yX5_shapesTold : MethodName := ⟨RX5, "shapesTold", "(II)I"⟩
abbrev cX5_shapesOf : ByteArray := prog_7_method_53_code
def yX5_shapesOf : MethodName := ⟨RX5, "shapesOf", "(III)I"⟩
abbrev cX5_lessonTold : ByteArray := prog_7_method_54_code
def yX5_lessonTold : MethodName := ⟨RX5, "lessonTold", "(II)I"⟩
abbrev cX5_lessonOf : ByteArray := prog_7_method_55_code
def yX5_lessonOf : MethodName := ⟨RX5, "lessonOf", "(II)I"⟩
abbrev cX5_idleLessons : ByteArray := prog_7_method_56_code
def yX5_idleLessons : MethodName := ⟨RX5, "idleLessons", "()I"⟩
abbrev cX5_learntPairs : ByteArray := prog_7_method_57_code
def yX5_learntPairs : MethodName := ⟨RX5, "learntPairs", "()I"⟩
abbrev cX5_otherShapes : ByteArray := prog_7_method_58_code
def yX5_otherShapes : MethodName := ⟨RX5, "otherShapes", "()I"⟩
abbrev cX5_countTold : ByteArray := prog_7_method_59_code
def yX5_countTold : MethodName := ⟨RX5, "countTold", "(I)I"⟩
abbrev cX5_count : ByteArray := prog_7_method_60_code
def yX5_count : MethodName := ⟨RX5, "count", "(I)I"⟩
abbrev cX5_setting : ByteArray := prog_7_method_61_code
def yX5_setting : MethodName := ⟨RX5, "setting", "(I)I"⟩
abbrev cX5_endOf : ByteArray := prog_7_method_62_code
def yX5_endOf : MethodName := ⟨RX5, "endOf", "(I)I"⟩
abbrev cX5_widthOfWord : ByteArray := prog_7_method_63_code
def yX5_widthOfWord : MethodName := ⟨RX5, "widthOfWord", "(I)I"⟩
abbrev cX5_widthOfText : ByteArray := prog_7_method_64_code
def yX5_widthOfText : MethodName := ⟨RX5, "widthOfText", "()I"⟩
abbrev cX5_words : ByteArray := prog_7_method_65_code
def yX5_words : MethodName := ⟨RX5, "words", "()I"⟩
abbrev cX5_widestWord : ByteArray := prog_7_method_66_code
def yX5_widestWord : MethodName := ⟨RX5, "widestWord", "()I"⟩
abbrev cX5_fewestLines : ByteArray := prog_7_method_67_code
def yX5_fewestLines : MethodName := ⟨RX5, "fewestLines", "()I"⟩
abbrev cX5_textTold : ByteArray := prog_7_method_68_code
def yX5_textTold : MethodName := ⟨RX5, "textTold", "(I)I"⟩
abbrev cX5_text : ByteArray := prog_7_method_69_code
def yX5_text : MethodName := ⟨RX5, "text", "(I)I"⟩
abbrev cX5_ifCircled : ByteArray := prog_7_method_70_code
def yX5_ifCircled : MethodName := ⟨RX5, "ifCircled", "(III)I"⟩
abbrev cX5_without : ByteArray := prog_7_method_71_code
def yX5_without : MethodName := ⟨RX5, "without", "(I)I"⟩
abbrev cX5_ifForgotten : ByteArray := prog_7_method_72_code
def yX5_ifForgotten : MethodName := ⟨RX5, "ifForgotten", "(I)I"⟩
abbrev cX5_mainTold : ByteArray := prog_7_method_73_code
def yX5_mainTold : MethodName := ⟨RX5, "mainTold", "()I"⟩
abbrev cX5_mainLesson : ByteArray := prog_7_method_74_code
def yX5_mainLesson : MethodName := ⟨RX5, "mainLesson", "()I"⟩
abbrev cX5_shareTold : ByteArray := prog_7_method_75_code
def yX5_shareTold : MethodName := ⟨RX5, "shareTold", "()D"⟩
abbrev cX5_tightShare : ByteArray := prog_7_method_76_code
def yX5_tightShare : MethodName := ⟨RX5, "tightShare", "()D"⟩
abbrev cX5_bitsOf : ByteArray := prog_7_method_77_code
def yX5_bitsOf : MethodName := ⟨RX5, "bitsOf", "(D)J"⟩
abbrev cX5_mix : ByteArray := prog_7_method_78_code
def yX5_mix : MethodName := ⟨RX5, "mix", "(J)V"⟩
abbrev cX5_mixPairs : ByteArray := prog_7_method_79_code
def yX5_mixPairs : MethodName := ⟨RX5, "mixPairs", "()V"⟩
abbrev cX5_mixLessons : ByteArray := prog_7_method_80_code
def yX5_mixLessons : MethodName := ⟨RX5, "mixLessons", "()V"⟩
abbrev cX5_digest : ByteArray := prog_7_method_81_code
def yX5_digest : MethodName := ⟨RX5, "digest", "()J"⟩
def RJx145de : String := "java/io/Serializable"
def TJx145de : u_T := fun k => match k with
  | _ => ("", "", "", false)
def tyJx145de : Nat → FieldType := fun k => match k with
  | _ => .int
abbrev wsJx145de0 : List Cond := u_ws RJx145de TJx145de 0
theorem nmJx145de : ∀ a, a < 0 → ∀ b, b < 0 → a ≠ b → (TJx145de a).2.1 ≠ (TJx145de b).2.1 := by decide +kernel
theorem tyJx145de_ok : ∀ k, k < 0 → parseFieldDescriptor (TJx145de k).2.2.1 = some (tyJx145de k) := by decide +kernel
def RJ9 : String := "java/lang/Math"
def TJ9 : u_T := fun k => match k with
  | _ => ("", "", "", false)
def tyJ9 : Nat → FieldType := fun k => match k with
  | _ => .int
abbrev wsJ90 : List Cond := u_ws RJ9 TJ9 0
theorem nmJ9 : ∀ a, a < 0 → ∀ b, b < 0 → a ≠ b → (TJ9 a).2.1 ≠ (TJ9 b).2.1 := by decide +kernel
theorem tyJ9_ok : ∀ k, k < 0 → parseFieldDescriptor (TJ9 k).2.2.1 = some (tyJ9 k) := by decide +kernel
abbrev cJ9_max_7cf53 : ByteArray := prog_12_method_65_code
def yJ9_max_7cf53 : MethodName := ⟨RJ9, "max", "(II)I"⟩
abbrev cJ9_min_7cf53 : ByteArray := prog_12_method_69_code
def yJ9_min_7cf53 : MethodName := ⟨RJ9, "min", "(II)I"⟩
def RJ0 : String := "java/lang/String"
def TJ0 : u_T := fun k => match k with
  | _ => ("", "", "", false)
def tyJ0 : Nat → FieldType := fun k => match k with
  | _ => .int
abbrev wsJ00 : List Cond := u_ws RJ0 TJ0 0
theorem nmJ0 : ∀ a, a < 0 → ∀ b, b < 0 → a ≠ b → (TJ0 a).2.1 ≠ (TJ0 b).2.1 := by decide +kernel
theorem tyJ0_ok : ∀ k, k < 0 → parseFieldDescriptor (TJ0 k).2.2.1 = some (tyJ0 k) := by decide +kernel
def RJ10 : String := "java/lang/System"
def TJ10 : u_T := fun k => match k with
  | _ => ("", "", "", false)
def tyJ10 : Nat → FieldType := fun k => match k with
  | _ => .int
abbrev wsJ100 : List Cond := u_ws RJ10 TJ10 0
theorem nmJ10 : ∀ a, a < 0 → ∀ b, b < 0 → a ≠ b → (TJ10 a).2.1 ≠ (TJ10 b).2.1 := by decide +kernel
theorem tyJ10_ok : ∀ k, k < 0 → parseFieldDescriptor (TJ10 k).2.2.1 = some (tyJ10 k) := by decide +kernel
def RJ7 : String := "java/util/Arrays"
def TJ7 : u_T := fun k => match k with
  | _ => ("", "", "", false)
def tyJ7 : Nat → FieldType := fun k => match k with
  | _ => .int
abbrev wsJ70 : List Cond := u_ws RJ7 TJ7 0
theorem nmJ7 : ∀ a, a < 0 → ∀ b, b < 0 → a ≠ b → (TJ7 a).2.1 ≠ (TJ7 b).2.1 := by decide +kernel
theorem tyJ7_ok : ∀ k, k < 0 → parseFieldDescriptor (TJ7 k).2.2.1 = some (tyJ7 k) := by decide +kernel
abbrev cJ7_fill_53178 : ByteArray := prog_17_method_103_code
def yJ7_fill_53178 : MethodName := ⟨RJ7, "fill", "([II)V"⟩
def RL : String := "KernLessonsLaw"
abbrev cL_width : ByteArray := method_3_code
def yL_width : MethodName := ⟨RL, "width", "(LKernLessons;II[J)I"⟩
abbrev cL_shape : ByteArray := method_4_code
def yL_shape : MethodName := ⟨RL, "shape", "(LKernLessons;III[J)I"⟩
abbrev cL_base : ByteArray := method_5_code
def yL_base : MethodName := ⟨RL, "base", "(LKernLessons;III[J)I"⟩
abbrev cL_set : ByteArray := method_6_code
def yL_set : MethodName := ⟨RL, "set", "(LKernLessons;II[J)I"⟩
abbrev cL_circle : ByteArray := method_7_code
def yL_circle : MethodName := ⟨RL, "circle", "(LKernLessons;III[J)I"⟩
abbrev cL_forget : ByteArray := method_8_code
def yL_forget : MethodName := ⟨RL, "forget", "(LKernLessons;I[J)I"⟩
abbrev cL_append : ByteArray := method_9_code
def yL_append : MethodName := ⟨RL, "append", "(LKernLessons;I[J)I"⟩
abbrev cL_circleAt : ByteArray := method_10_code
def yL_circleAt : MethodName := ⟨RL, "circleAt", "(LKernLessons;II[J)I"⟩
abbrev cL_keep : ByteArray := method_11_code
def yL_keep : MethodName := ⟨RL, "keep", "(LKernLessons;I[J)I"⟩
abbrev cL_goBack : ByteArray := method_12_code
def yL_goBack : MethodName := ⟨RL, "goBack", "(LKernLessons;I[J)I"⟩
abbrev cL_undo : ByteArray := method_13_code
def yL_undo : MethodName := ⟨RL, "undo", "(LKernLessons;[J)I"⟩
abbrev cL_letterOf : ByteArray := method_14_code
def yL_letterOf : MethodName := ⟨RL, "letterOf", "(LKernLessons;II[J)I"⟩
abbrev cL_pairOf : ByteArray := method_15_code
def yL_pairOf : MethodName := ⟨RL, "pairOf", "(LKernLessons;III[J)I"⟩
abbrev cL_shapesOf : ByteArray := method_16_code
def yL_shapesOf : MethodName := ⟨RL, "shapesOf", "(LKernLessons;III[J)I"⟩
abbrev cL_lessonOf : ByteArray := method_17_code
def yL_lessonOf : MethodName := ⟨RL, "lessonOf", "(LKernLessons;II[J)I"⟩
abbrev cL_count : ByteArray := method_18_code
def yL_count : MethodName := ⟨RL, "count", "(LKernLessons;I[J)I"⟩
abbrev cL_setting : ByteArray := method_19_code
def yL_setting : MethodName := ⟨RL, "setting", "(LKernLessons;I[J)I"⟩
abbrev cL_text : ByteArray := method_20_code
def yL_text : MethodName := ⟨RL, "text", "(LKernLessons;I[J)I"⟩
abbrev cL_ifCircled : ByteArray := method_21_code
def yL_ifCircled : MethodName := ⟨RL, "ifCircled", "(LKernLessons;III[J)I"⟩
abbrev cL_ifForgotten : ByteArray := method_22_code
def yL_ifForgotten : MethodName := ⟨RL, "ifForgotten", "(LKernLessons;I[J)I"⟩
abbrev cL_law : ByteArray := code
def yL_law : MethodName := ⟨RL, "law", "([I)Z"⟩
abbrev vwCl : List vw_C := [(RX0, TX0, 2), (RX1, TX1, 5), (RX2, TX2, 12), (RX3, TX3, 8), (RX4, TX4, 9), (RX5, TX5, 17)]
end
section
/-- the words of the tables that a call may hand on: the same list for all methods -/
def G : List Cond := lw_tbl.filter goodWord
theorem inG {w : Cond} (i : Nat) (h : lw_tbl[i]? = some w) (hg : goodWord w = true) : w ∈ G := List.mem_filter.mpr ⟨List.mem_of_getElem? h, hg⟩
theorem inG_ws {C : String} {F : u_T} {N : Nat} (h : ∀ k, k < N → u_lay C F k ∈ lw_tbl ∧ goodWord (u_lay C F k) = true) : ∀ w ∈ u_ws C F N, w ∈ G := by
  intro w hw
  obtain ⟨k, hk, rfl⟩ := List.mem_map.mp hw
  exact List.mem_filter.mpr (h k (List.mem_range.mp hk))
theorem G_good : ∀ w ∈ G, (w.onTables && w.keeps) = true ∨ ∃ ty, w = .arrayClass ty := fun w h => good_of_word (List.mem_filter.mp h).2
theorem G_tbl : ∀ w ∈ G, w ∈ lw_tbl := fun w h => (List.mem_filter.mp h).1
theorem goodG {y : MethodName} {c : ByteArray} {n : Nat} {r : Option FieldType} (h : Cond.code y c n r ∈ G) : GoodIn G (Cond.code y c n r :: G) := by
  intro w hw
  rcases List.mem_cons.mp hw with rfl | hw
  · exact ⟨h, G_good _ h⟩
  · exact ⟨hw, G_good _ hw⟩
theorem q0 : Cond.selects RX4 yX4_findPairsOtherwise yX4_findPairsOtherwise ∈ G := inG 0 (by decide +kernel) rfl
theorem q1 : Cond.selects RX4 yX4_pairsOtherwiseWithout yX4_pairsOtherwiseWithout ∈ G := inG 1 (by decide +kernel) rfl
theorem q2 : Cond.selects RX3 yX3_pairsThatAgree yX3_pairsThatAgree ∈ G := inG 2 (by decide +kernel) rfl
theorem q3 : Cond.selects RX3 yX3_moveShapes yX3_moveShapes ∈ G := inG 3 (by decide +kernel) rfl
theorem q4 : Cond.selects RX4 yX4_lessonWithMostOtherwise yX4_lessonWithMostOtherwise ∈ G := inG 4 (by decide +kernel) rfl
theorem q5 : Cond.selects RX4 yX4_hashCountsAndSettings yX4_hashCountsAndSettings ∈ G := inG 5 (by decide +kernel) rfl
theorem q6 : Cond.selects "java/lang/Throwable" (⟨"java/lang/Throwable", "fillInStackTrace", "(I)Ljava/lang/Throwable;"⟩ : MethodName) (⟨"java/lang/Throwable", "fillInStackTrace", "(I)Ljava/lang/Throwable;"⟩ : MethodName) ∈ G := inG 6 (by decide +kernel) rfl
theorem q7 : Cond.selects RX4 yX4_hashLetters yX4_hashLetters ∈ G := inG 7 (by decide +kernel) rfl
theorem q8 : Cond.selects RX4 yX4_hashPairs yX4_hashPairs ∈ G := inG 8 (by decide +kernel) rfl
theorem q9 : Cond.selects RX4 yX4_hashShapes yX4_hashShapes ∈ G := inG 9 (by decide +kernel) rfl
theorem q10 : Cond.selects RX4 yX4_hashLessons yX4_hashLessons ∈ G := inG 10 (by decide +kernel) rfl
theorem q11 : Cond.selects RX1 yX1_widthAt yX1_widthAt ∈ G := inG 11 (by decide +kernel) rfl
theorem q12 : Cond.selects RX4 yX4_saveState yX4_saveState ∈ G := inG 12 (by decide +kernel) rfl
theorem q13 : Cond.selects RX4 yX4_learnCircle yX4_learnCircle ∈ G := inG 13 (by decide +kernel) rfl
theorem q14 : Cond.selects RX5 yX5_put yX5_put ∈ G := inG 14 (by decide +kernel) rfl
theorem q15 : Cond.selects RX5 yX5_holds yX5_holds ∈ G := inG 15 (by decide +kernel) rfl
theorem q16 : Cond.selects RX5 yX5_save yX5_save ∈ G := inG 16 (by decide +kernel) rfl
theorem q17 : Cond.selects RX5 yX5_of yX5_of ∈ G := inG 17 (by decide +kernel) rfl
theorem q18 : Cond.selects RX5 yX5_circles yX5_circles ∈ G := inG 18 (by decide +kernel) rfl
theorem q19 : Cond.selects RX5 yX5_isRefused yX5_isRefused ∈ G := inG 19 (by decide +kernel) rfl
theorem q20 : Cond.selects RX5 yX5_learnAll yX5_learnAll ∈ G := inG 20 (by decide +kernel) rfl
theorem q21 : Cond.selects RX5 yX5_learn yX5_learn ∈ G := inG 21 (by decide +kernel) rfl
theorem q22 : Cond.selects RX5 yX5_ofLesson yX5_ofLesson ∈ G := inG 22 (by decide +kernel) rfl
theorem q23 : Cond.selects RX5 yX5_isAtEnd yX5_isAtEnd ∈ G := inG 23 (by decide +kernel) rfl
theorem q24 : Cond.selects RX5 yX5_kerningOf yX5_kerningOf ∈ G := inG 24 (by decide +kernel) rfl
theorem q25 : Cond.selects RX5 yX5_meeting yX5_meeting ∈ G := inG 25 (by decide +kernel) rfl
theorem q26 : Cond.selects RX5 yX5_learnShapes yX5_learnShapes ∈ G := inG 26 (by decide +kernel) rfl
theorem q27 : Cond.selects RX5 yX5_add yX5_add ∈ G := inG 27 (by decide +kernel) rfl
theorem q28 : Cond.selects RX5 yX5_isLesson yX5_isLesson ∈ G := inG 28 (by decide +kernel) rfl
theorem q29 : Cond.selects RX5 yX5_drops yX5_drops ∈ G := inG 29 (by decide +kernel) rfl
theorem q30 : Cond.selects RX5 yX5_noteKernings yX5_noteKernings ∈ G := inG 30 (by decide +kernel) rfl
theorem q31 : Cond.selects RX5 yX5_otherKernings yX5_otherKernings ∈ G := inG 31 (by decide +kernel) rfl
theorem q32 : Cond.selects RX5 yX5_errorPlace yX5_errorPlace ∈ G := inG 32 (by decide +kernel) rfl
theorem q33 : Cond.selects RX5 yX5_isWritten yX5_isWritten ∈ G := inG 33 (by decide +kernel) rfl
theorem q34 : Cond.selects RX5 yX5_isText yX5_isText ∈ G := inG 34 (by decide +kernel) rfl
theorem q35 : Cond.selects RX5 yX5_pairAt yX5_pairAt ∈ G := inG 35 (by decide +kernel) rfl
theorem q36 : Cond.selects RX5 yX5_letterTold yX5_letterTold ∈ G := inG 36 (by decide +kernel) rfl
theorem q37 : Cond.selects RX5 yX5_lessonsWith yX5_lessonsWith ∈ G := inG 37 (by decide +kernel) rfl
theorem q38 : Cond.selects RX5 yX5_pairTold yX5_pairTold ∈ G := inG 38 (by decide +kernel) rfl
theorem q39 : Cond.selects RX5 yX5_shapesTold yX5_shapesTold ∈ G := inG 39 (by decide +kernel) rfl
theorem q40 : Cond.selects RX5 yX5_pairsAt yX5_pairsAt ∈ G := inG 40 (by decide +kernel) rfl
theorem q41 : Cond.selects RX5 yX5_lessonTold yX5_lessonTold ∈ G := inG 41 (by decide +kernel) rfl
theorem q42 : Cond.selects RX5 yX5_countTold yX5_countTold ∈ G := inG 42 (by decide +kernel) rfl
theorem q43 : Cond.selects RX5 yX5_idleLessons yX5_idleLessons ∈ G := inG 43 (by decide +kernel) rfl
theorem q44 : Cond.selects RX5 yX5_learntPairs yX5_learntPairs ∈ G := inG 44 (by decide +kernel) rfl
theorem q45 : Cond.selects RX5 yX5_otherShapes yX5_otherShapes ∈ G := inG 45 (by decide +kernel) rfl
theorem q46 : Cond.selects RX5 yX5_textTold yX5_textTold ∈ G := inG 46 (by decide +kernel) rfl
theorem q47 : Cond.selects RX5 yX5_widthOfText yX5_widthOfText ∈ G := inG 47 (by decide +kernel) rfl
theorem q48 : Cond.selects RX5 yX5_widthOfWord yX5_widthOfWord ∈ G := inG 48 (by decide +kernel) rfl
theorem q49 : Cond.selects RX5 yX5_endOf yX5_endOf ∈ G := inG 49 (by decide +kernel) rfl
theorem q50 : Cond.selects RX5 yX5_words yX5_words ∈ G := inG 50 (by decide +kernel) rfl
theorem q51 : Cond.selects RX5 yX5_widestWord yX5_widestWord ∈ G := inG 51 (by decide +kernel) rfl
theorem q52 : Cond.selects RX5 yX5_fewestLines yX5_fewestLines ∈ G := inG 52 (by decide +kernel) rfl
theorem q53 : Cond.selects RX5 yX5_without yX5_without ∈ G := inG 53 (by decide +kernel) rfl
theorem q54 : Cond.selects RX5 yX5_mainTold yX5_mainTold ∈ G := inG 54 (by decide +kernel) rfl
theorem q55 : Cond.selects RX5 yX5_shareTold yX5_shareTold ∈ G := inG 55 (by decide +kernel) rfl
theorem q56 : Cond.selects RX5 yX5_mix yX5_mix ∈ G := inG 56 (by decide +kernel) rfl
theorem q57 : Cond.selects RX5 yX5_mixPairs yX5_mixPairs ∈ G := inG 57 (by decide +kernel) rfl
theorem q58 : Cond.selects RX5 yX5_mixLessons yX5_mixLessons ∈ G := inG 58 (by decide +kernel) rfl
theorem q59 : Cond.initialized RL ∈ G := inG 59 (by decide +kernel) rfl
theorem q60 : Cond.initialized RX4 ∈ G := inG 60 (by decide +kernel) rfl
theorem q61 : Cond.initialized RX2 ∈ G := inG 61 (by decide +kernel) rfl
theorem q62 : Cond.initialized RX3 ∈ G := inG 62 (by decide +kernel) rfl
theorem q63 : Cond.initialized RX0 ∈ G := inG 63 (by decide +kernel) rfl
theorem q64 : Cond.initialized RX1 ∈ G := inG 64 (by decide +kernel) rfl
theorem q65 : Cond.initialized RX5 ∈ G := inG 65 (by decide +kernel) rfl
theorem q66 : Cond.initialized "java/lang/Throwable" ∈ G := inG 66 (by decide +kernel) rfl
theorem q67 : Cond.initialized "java/lang/Exception" ∈ G := inG 67 (by decide +kernel) rfl
theorem q68 : Cond.initialized "java/lang/RuntimeException" ∈ G := inG 68 (by decide +kernel) rfl
theorem q69 : Cond.initialized "java/lang/IndexOutOfBoundsException" ∈ G := inG 69 (by decide +kernel) rfl
theorem q70 : Cond.initialized "java/lang/IllegalArgumentException" ∈ G := inG 70 (by decide +kernel) rfl
theorem q71 : Cond.initialized RJ10 ∈ G := inG 71 (by decide +kernel) rfl
theorem q72 : Cond.initialized RJ7 ∈ G := inG 72 (by decide +kernel) rfl
theorem q73 : Cond.initialized RJ9 ∈ G := inG 73 (by decide +kernel) rfl
theorem q74 : Cond.initialized "java/lang/IllegalStateException" ∈ G := inG 74 (by decide +kernel) rfl
theorem q75 : Cond.classLink RL 8 RX4 ∈ G := inG 75 (by decide +kernel) rfl
theorem q76 : Cond.instantiable RX4 9 ∈ G := inG 76 (by decide +kernel) rfl
theorem q77 : Cond.methodLink RL 79 yX4_init ∈ G := inG 77 (by decide +kernel) rfl
theorem q78 : Cond.instanceMethod yX4_init ∈ G := inG 78 (by decide +kernel) rfl
theorem q79 : Cond.code yX4_init cX4_init 2 none ∈ G := inG 79 (by decide +kernel) rfl
theorem q80 : Cond.methodLink RX4 1 objectInit ∈ G := inG 80 (by decide +kernel) rfl
theorem q81 : Cond.instanceMethod objectInit ∈ G := inG 81 (by decide +kernel) rfl
theorem q82 : Cond.code objectInit ⟨#[0xb1]⟩ 1 none ∈ G := inG 82 (by decide +kernel) rfl
theorem q83 : Cond.classLink RX4 7 RX2 ∈ G := inG 83 (by decide +kernel) rfl
theorem q84 : Cond.instantiable RX2 12 ∈ G := inG 84 (by decide +kernel) rfl
theorem q85 : Cond.methodLink RX4 9 yX2_init ∈ G := inG 85 (by decide +kernel) rfl
theorem q86 : Cond.instanceMethod yX2_init ∈ G := inG 86 (by decide +kernel) rfl
theorem q87 : Cond.code yX2_init cX2_init 2 none ∈ G := inG 87 (by decide +kernel) rfl
theorem q88 : Cond.methodLink RX2 3 objectInit ∈ G := inG 88 (by decide +kernel) rfl
theorem q89 : Cond.classLink RX2 37 RX3 ∈ G := inG 89 (by decide +kernel) rfl
theorem q90 : Cond.instantiable RX3 8 ∈ G := inG 90 (by decide +kernel) rfl
theorem q92 : Cond.instanceMethod yX3_init ∈ G := inG 92 (by decide +kernel) rfl
theorem q93 : Cond.code yX3_init cX3_init 1 none ∈ G := inG 93 (by decide +kernel) rfl
theorem q94 : Cond.methodLink RX3 3 objectInit ∈ G := inG 94 (by decide +kernel) rfl
theorem q95 : Cond.fieldLink RX3 9 "KernLessons$Table" "shapeKernings" "[I" ∈ G := inG 95 (by decide +kernel) rfl
theorem q96 : Cond.fieldLink RX2 83 "KernLessons$Table" "shapeKernings" "[I" ∈ G := inG 96 (by decide +kernel) rfl
theorem q97 : Cond.fieldLink RX4 181 "KernLessons$Table" "shapeKernings" "[I" ∈ G := inG 97 (by decide +kernel) rfl
theorem q98 : Cond.fieldLink RX3 15 "KernLessons$Table" "own" "[I" ∈ G := inG 98 (by decide +kernel) rfl
theorem q99 : Cond.fieldLink RX4 172 "KernLessons$Table" "own" "[I" ∈ G := inG 99 (by decide +kernel) rfl
theorem q100 : Cond.fieldLink RX3 18 "KernLessons$Table" "steps" "[I" ∈ G := inG 100 (by decide +kernel) rfl
theorem q101 : Cond.fieldLink RX4 175 "KernLessons$Table" "steps" "[I" ∈ G := inG 101 (by decide +kernel) rfl
theorem q102 : Cond.fieldLink RX3 21 "KernLessons$Table" "tolds" "[I" ∈ G := inG 102 (by decide +kernel) rfl
theorem q103 : Cond.fieldLink RX3 24 "KernLessons$Table" "learnt" "[I" ∈ G := inG 103 (by decide +kernel) rfl
theorem q104 : Cond.fieldLink RX4 178 "KernLessons$Table" "learnt" "[I" ∈ G := inG 104 (by decide +kernel) rfl
theorem q105 : Cond.fieldLink RX3 27 "KernLessons$Table" "learntPairs" "[I" ∈ G := inG 105 (by decide +kernel) rfl
theorem q106 : Cond.fieldLink RX2 80 "KernLessons$Table" "learntPairs" "[I" ∈ G := inG 106 (by decide +kernel) rfl
theorem q107 : Cond.fieldLink RX3 30 "KernLessons$Table" "pairsLearnt" "I" ∈ G := inG 107 (by decide +kernel) rfl
theorem q108 : Cond.fieldLink RX2 77 "KernLessons$Table" "pairsLearnt" "I" ∈ G := inG 108 (by decide +kernel) rfl
theorem q109 : Cond.fieldLink RX4 202 "KernLessons$Table" "pairsLearnt" "I" ∈ G := inG 109 (by decide +kernel) rfl
theorem q110 : Cond.fieldLink RX3 34 "KernLessons$Table" "idle" "[I" ∈ G := inG 110 (by decide +kernel) rfl
theorem q111 : Cond.fieldLink RX2 70 "KernLessons$Table" "idle" "[I" ∈ G := inG 111 (by decide +kernel) rfl
theorem q112 : Cond.fieldLink RX4 196 "KernLessons$Table" "idle" "[I" ∈ G := inG 112 (by decide +kernel) rfl
theorem q130 : Cond.arrayClass .int ∈ G := inG 130 (by decide +kernel) rfl
theorem q133 : Cond.fieldLink RX2 9 "KernLessons$State" "widths" "[I" ∈ G := inG 133 (by decide +kernel) rfl
theorem q134 : Cond.fieldLink RX1 39 "KernLessons$State" "widths" "[I" ∈ G := inG 134 (by decide +kernel) rfl
theorem q135 : Cond.fieldLink RX4 67 "KernLessons$State" "widths" "[I" ∈ G := inG 135 (by decide +kernel) rfl
theorem q136 : Cond.fieldLink RX2 15 "KernLessons$State" "lefts" "[I" ∈ G := inG 136 (by decide +kernel) rfl
theorem q137 : Cond.fieldLink RX4 70 "KernLessons$State" "lefts" "[I" ∈ G := inG 137 (by decide +kernel) rfl
theorem q138 : Cond.fieldLink RX2 18 "KernLessons$State" "rights" "[I" ∈ G := inG 138 (by decide +kernel) rfl
theorem q139 : Cond.fieldLink RX4 73 "KernLessons$State" "rights" "[I" ∈ G := inG 139 (by decide +kernel) rfl
theorem q140 : Cond.fieldLink RX2 21 "KernLessons$State" "bases" "[I" ∈ G := inG 140 (by decide +kernel) rfl
theorem q141 : Cond.fieldLink RX3 49 "KernLessons$State" "bases" "[I" ∈ G := inG 141 (by decide +kernel) rfl
theorem q142 : Cond.fieldLink RX4 83 "KernLessons$State" "bases" "[I" ∈ G := inG 142 (by decide +kernel) rfl
theorem q143 : Cond.fieldLink RX2 24 "KernLessons$State" "settings" "[I" ∈ G := inG 143 (by decide +kernel) rfl
theorem q144 : Cond.fieldLink RX1 34 "KernLessons$State" "settings" "[I" ∈ G := inG 144 (by decide +kernel) rfl
theorem q145 : Cond.fieldLink RX4 92 "KernLessons$State" "settings" "[I" ∈ G := inG 145 (by decide +kernel) rfl
theorem q146 : Cond.fieldLink RX3 75 "KernLessons$State" "settings" "[I" ∈ G := inG 146 (by decide +kernel) rfl
theorem q147 : Cond.fieldLink RX2 27 "KernLessons$State" "lessonPairs" "[I" ∈ G := inG 147 (by decide +kernel) rfl
theorem q148 : Cond.fieldLink RX3 61 "KernLessons$State" "lessonPairs" "[I" ∈ G := inG 148 (by decide +kernel) rfl
theorem q149 : Cond.fieldLink RX4 190 "KernLessons$State" "lessonPairs" "[I" ∈ G := inG 149 (by decide +kernel) rfl
theorem q150 : Cond.fieldLink RX2 30 "KernLessons$State" "lessonTolds" "[I" ∈ G := inG 150 (by decide +kernel) rfl
theorem q151 : Cond.fieldLink RX3 64 "KernLessons$State" "lessonTolds" "[I" ∈ G := inG 151 (by decide +kernel) rfl
theorem q152 : Cond.fieldLink RX4 193 "KernLessons$State" "lessonTolds" "[I" ∈ G := inG 152 (by decide +kernel) rfl
theorem q153 : Cond.fieldLink RX2 33 "KernLessons$State" "lessons" "I" ∈ G := inG 153 (by decide +kernel) rfl
theorem q154 : Cond.fieldLink RX3 58 "KernLessons$State" "lessons" "I" ∈ G := inG 154 (by decide +kernel) rfl
theorem q155 : Cond.fieldLink RX4 102 "KernLessons$State" "lessons" "I" ∈ G := inG 155 (by decide +kernel) rfl
theorem q156 : Cond.fieldLink RX2 40 "KernLessons$State" "table" "LKernLessons$Table;" ∈ G := inG 156 (by decide +kernel) rfl
theorem q157 : Cond.fieldLink RX1 49 "KernLessons$State" "table" "LKernLessons$Table;" ∈ G := inG 157 (by decide +kernel) rfl
theorem q158 : Cond.fieldLink RX4 161 "KernLessons$State" "table" "LKernLessons$Table;" ∈ G := inG 158 (by decide +kernel) rfl
theorem q159 : Cond.fieldLink RX2 44 "KernLessons$State" "refused" "I" ∈ G := inG 159 (by decide +kernel) rfl
theorem q160 : Cond.fieldLink RX4 208 "KernLessons$State" "refused" "I" ∈ G := inG 160 (by decide +kernel) rfl
theorem q161 : Cond.fieldLink RX2 47 "KernLessons$State" "forgotten" "I" ∈ G := inG 161 (by decide +kernel) rfl
theorem q162 : Cond.fieldLink RX4 112 "KernLessons$State" "forgotten" "I" ∈ G := inG 162 (by decide +kernel) rfl
theorem q163 : Cond.fieldLink RX2 50 "KernLessons$State" "goneThrough" "I" ∈ G := inG 163 (by decide +kernel) rfl
theorem q164 : Cond.fieldLink RX4 211 "KernLessons$State" "goneThrough" "I" ∈ G := inG 164 (by decide +kernel) rfl
theorem q191 : Cond.classLink RX4 31 RX0 ∈ G := inG 191 (by decide +kernel) rfl
theorem q192 : Cond.instantiable RX0 2 ∈ G := inG 192 (by decide +kernel) rfl
theorem q194 : Cond.instanceMethod yX0_init ∈ G := inG 194 (by decide +kernel) rfl
theorem q195 : Cond.code yX0_init cX0_init 1 none ∈ G := inG 195 (by decide +kernel) rfl
theorem q196 : Cond.methodLink RX0 3 objectInit ∈ G := inG 196 (by decide +kernel) rfl
theorem q197 : Cond.fieldLink RX0 9 "KernLessons$Buffer" "codes" "[I" ∈ G := inG 197 (by decide +kernel) rfl
theorem q198 : Cond.fieldLink RX4 125 "KernLessons$Buffer" "codes" "[I" ∈ G := inG 198 (by decide +kernel) rfl
theorem q199 : Cond.fieldLink RX0 15 "KernLessons$Buffer" "length" "I" ∈ G := inG 199 (by decide +kernel) rfl
theorem q200 : Cond.fieldLink RX1 62 "KernLessons$Buffer" "length" "I" ∈ G := inG 200 (by decide +kernel) rfl
theorem q201 : Cond.fieldLink RX4 115 "KernLessons$Buffer" "length" "I" ∈ G := inG 201 (by decide +kernel) rfl
theorem q207 : Cond.arrayClass .boolean ∈ G := inG 207 (by decide +kernel) rfl
theorem q208 : Cond.classLink RX4 38 RX3 ∈ G := inG 208 (by decide +kernel) rfl
theorem q210 : Cond.classLink RX4 49 RX1 ∈ G := inG 210 (by decide +kernel) rfl
theorem q211 : Cond.instantiable RX1 5 ∈ G := inG 211 (by decide +kernel) rfl
theorem q213 : Cond.instanceMethod yX1_init ∈ G := inG 213 (by decide +kernel) rfl
theorem q214 : Cond.code yX1_init cX1_init 1 none ∈ G := inG 214 (by decide +kernel) rfl
theorem q215 : Cond.methodLink RX1 3 objectInit ∈ G := inG 215 (by decide +kernel) rfl
theorem q216 : Cond.fieldLink RX1 9 "KernLessons$Measure" "lettersFound" "[I" ∈ G := inG 216 (by decide +kernel) rfl
theorem q217 : Cond.fieldLink RX1 15 "KernLessons$Measure" "pairsFound" "[I" ∈ G := inG 217 (by decide +kernel) rfl
theorem q218 : Cond.fieldLink RX1 18 "KernLessons$Measure" "wordWidths" "[I" ∈ G := inG 218 (by decide +kernel) rfl
theorem q219 : Cond.fieldLink RX1 21 "KernLessons$Measure" "linesFrom" "[I" ∈ G := inG 219 (by decide +kernel) rfl
theorem q220 : Cond.fieldLink RX1 24 "KernLessons$Measure" "words" "I" ∈ G := inG 220 (by decide +kernel) rfl
theorem q221 : Cond.fieldLink RX4 225 "KernLessons$Measure" "words" "I" ∈ G := inG 221 (by decide +kernel) rfl
theorem q233 : Cond.fieldLink RX4 10 "KernLessons" "now" "LKernLessons$State;" ∈ G := inG 233 (by decide +kernel) rfl
theorem q234 : Cond.fieldLink RX4 16 "KernLessons" "saved" "[LKernLessons$State;" ∈ G := inG 234 (by decide +kernel) rfl
theorem q235 : Cond.fieldLink RX4 20 "KernLessons" "savedCount" "I" ∈ G := inG 235 (by decide +kernel) rfl
theorem q236 : Cond.fieldLink RX4 24 "KernLessons" "slots" "[LKernLessons$State;" ∈ G := inG 236 (by decide +kernel) rfl
theorem q237 : Cond.fieldLink RX4 27 "KernLessons" "slotFilled" "[Z" ∈ G := inG 237 (by decide +kernel) rfl
theorem q238 : Cond.fieldLink RX4 34 "KernLessons" "buffer" "LKernLessons$Buffer;" ∈ G := inG 238 (by decide +kernel) rfl
theorem q239 : Cond.fieldLink RX4 41 "KernLessons" "trial" "LKernLessons$Table;" ∈ G := inG 239 (by decide +kernel) rfl
theorem q240 : Cond.fieldLink RX4 45 "KernLessons" "pairsOtherwise" "[I" ∈ G := inG 240 (by decide +kernel) rfl
theorem q241 : Cond.fieldLink RX4 52 "KernLessons" "measure" "LKernLessons$Measure;" ∈ G := inG 241 (by decide +kernel) rfl
theorem q261 : Cond.methodLink RL 112 yX4_clearBuffer ∈ G := inG 261 (by decide +kernel) rfl
theorem q262 : Cond.instanceMethod yX4_clearBuffer ∈ G := inG 262 (by decide +kernel) rfl
theorem q263 : Cond.selects RX4 yX4_clearBuffer yX4_clearBuffer ∈ G := inG 263 (by decide +kernel) rfl
theorem q264 : Cond.code yX4_clearBuffer cX4_clearBuffer 2 (some .int) ∈ G := inG 264 (by decide +kernel) rfl
theorem q265 : Cond.methodLink RL 116 yX4_firstError ∈ G := inG 265 (by decide +kernel) rfl
theorem q266 : Cond.instanceMethod yX4_firstError ∈ G := inG 266 (by decide +kernel) rfl
theorem q267 : Cond.selects RX4 yX4_firstError yX4_firstError ∈ G := inG 267 (by decide +kernel) rfl
theorem q268 : Cond.code yX4_firstError cX4_firstError 1 (some .int) ∈ G := inG 268 (by decide +kernel) rfl
theorem q269 : Cond.methodLink RX4 128 yX0_firstWrongPlace ∈ G := inG 269 (by decide +kernel) rfl
theorem q270 : Cond.instanceMethod yX0_firstWrongPlace ∈ G := inG 270 (by decide +kernel) rfl
theorem q271 : Cond.selects RX0 yX0_firstWrongPlace yX0_firstWrongPlace ∈ G := inG 271 (by decide +kernel) rfl
theorem q272 : Cond.code yX0_firstWrongPlace cX0_firstWrongPlace 3 (some .int) ∈ G := inG 272 (by decide +kernel) rfl
theorem q273 : Cond.methodLink RX0 19 yX0_hasLetterAt ∈ G := inG 273 (by decide +kernel) rfl
theorem q274 : Cond.instanceMethod yX0_hasLetterAt ∈ G := inG 274 (by decide +kernel) rfl
theorem q275 : Cond.selects RX0 yX0_hasLetterAt yX0_hasLetterAt ∈ G := inG 275 (by decide +kernel) rfl
theorem q276 : Cond.code yX0_hasLetterAt cX0_hasLetterAt 2 (some .boolean) ∈ G := inG 276 (by decide +kernel) rfl
theorem q277 : Cond.methodLink RL 160 yX4_mainLesson ∈ G := inG 277 (by decide +kernel) rfl
theorem q278 : Cond.instanceMethod yX4_mainLesson ∈ G := inG 278 (by decide +kernel) rfl
theorem q279 : Cond.selects RX4 yX4_mainLesson yX4_mainLesson ∈ G := inG 279 (by decide +kernel) rfl
theorem q280 : Cond.code yX4_mainLesson cX4_mainLesson 1 (some .int) ∈ G := inG 280 (by decide +kernel) rfl
theorem q281 : Cond.methodLink RX4 245 yX4_findPairsOtherwise ∈ G := inG 281 (by decide +kernel) rfl
theorem q283 : Cond.instanceMethod yX4_findPairsOtherwise ∈ G := inG 283 (by decide +kernel) rfl
theorem q284 : Cond.code yX4_findPairsOtherwise cX4_findPairsOtherwise 2 none ∈ G := inG 284 (by decide +kernel) rfl
theorem q285 : Cond.methodLink RX4 105 yX4_pairsOtherwiseWithout ∈ G := inG 285 (by decide +kernel) rfl
theorem q287 : Cond.instanceMethod yX4_pairsOtherwiseWithout ∈ G := inG 287 (by decide +kernel) rfl
theorem q288 : Cond.code yX4_pairsOtherwiseWithout cX4_pairsOtherwiseWithout 4 (some .int) ∈ G := inG 288 (by decide +kernel) rfl
theorem q289 : Cond.methodLink RX4 168 yX3_learnAllBut ∈ G := inG 289 (by decide +kernel) rfl
theorem q290 : Cond.instanceMethod yX3_learnAllBut ∈ G := inG 290 (by decide +kernel) rfl
theorem q291 : Cond.selects RX3 yX3_learnAllBut yX3_learnAllBut ∈ G := inG 291 (by decide +kernel) rfl
theorem q292 : Cond.code yX3_learnAllBut cX3_learnAllBut 4 none ∈ G := inG 292 (by decide +kernel) rfl
theorem q293 : Cond.methodLink RX3 37 arraycopyName ∈ G := inG 293 (by decide +kernel) rfl
theorem q294 : Cond.static arraycopyName ∈ G := inG 294 (by decide +kernel) rfl
theorem q295 : Cond.native arraycopyName ∈ G := inG 295 (by decide +kernel) rfl
theorem q296 : Cond.methodLink RX3 52 yJ7_fill_53178 ∈ G := inG 296 (by decide +kernel) rfl
theorem q297 : Cond.static yJ7_fill_53178 ∈ G := inG 297 (by decide +kernel) rfl
theorem q298 : Cond.code yJ7_fill_53178 cJ7_fill_53178 4 none ∈ G := inG 298 (by decide +kernel) rfl
theorem q299 : Cond.methodLink RX3 67 yX3_learn ∈ G := inG 299 (by decide +kernel) rfl
theorem q300 : Cond.instanceMethod yX3_learn ∈ G := inG 300 (by decide +kernel) rfl
theorem q301 : Cond.selects RX3 yX3_learn yX3_learn ∈ G := inG 301 (by decide +kernel) rfl
theorem q302 : Cond.code yX3_learn cX3_learn 8 (some .boolean) ∈ G := inG 302 (by decide +kernel) rfl
theorem q303 : Cond.methodLink RX3 71 yX3_kerningOfPair ∈ G := inG 303 (by decide +kernel) rfl
theorem q304 : Cond.instanceMethod yX3_kerningOfPair ∈ G := inG 304 (by decide +kernel) rfl
theorem q305 : Cond.selects RX3 yX3_kerningOfPair yX3_kerningOfPair ∈ G := inG 305 (by decide +kernel) rfl
theorem q306 : Cond.code yX3_kerningOfPair cX3_kerningOfPair 3 (some .int) ∈ G := inG 306 (by decide +kernel) rfl
theorem q307 : Cond.methodLink RX3 43 yX2_shapesOfPair ∈ G := inG 307 (by decide +kernel) rfl
theorem q308 : Cond.instanceMethod yX2_shapesOfPair ∈ G := inG 308 (by decide +kernel) rfl
theorem q309 : Cond.selects RX2 yX2_shapesOfPair yX2_shapesOfPair ∈ G := inG 309 (by decide +kernel) rfl
theorem q310 : Cond.code yX2_shapesOfPair cX2_shapesOfPair 2 (some .int) ∈ G := inG 310 (by decide +kernel) rfl
theorem q311 : Cond.methodLink RX3 78 Lib.Math.max.name ∈ G := inG 311 (by decide +kernel) rfl
theorem q312 : Cond.static Lib.Math.max.name ∈ G := inG 312 (by decide +kernel) rfl
theorem q313 : Cond.code Lib.Math.max.name cJ9_max_7cf53 2 (some .int) ∈ G := inG 313 (by decide +kernel) rfl
theorem q314 : Cond.methodLink RX3 84 Lib.Math.min.name ∈ G := inG 314 (by decide +kernel) rfl
theorem q315 : Cond.static Lib.Math.min.name ∈ G := inG 315 (by decide +kernel) rfl
theorem q316 : Cond.code Lib.Math.min.name cJ9_min_7cf53 2 (some .int) ∈ G := inG 316 (by decide +kernel) rfl
theorem q317 : Cond.methodLink RX3 87 yX3_pairsThatAgree ∈ G := inG 317 (by decide +kernel) rfl
theorem q319 : Cond.instanceMethod yX3_pairsThatAgree ∈ G := inG 319 (by decide +kernel) rfl
theorem q320 : Cond.code yX3_pairsThatAgree cX3_pairsThatAgree 7 (some .int) ∈ G := inG 320 (by decide +kernel) rfl
theorem q321 : Cond.methodLink RX3 91 yX3_moveShapes ∈ G := inG 321 (by decide +kernel) rfl
theorem q323 : Cond.instanceMethod yX3_moveShapes ∈ G := inG 323 (by decide +kernel) rfl
theorem q324 : Cond.code yX3_moveShapes cX3_moveShapes 5 none ∈ G := inG 324 (by decide +kernel) rfl
theorem q325 : Cond.methodLink RX4 164 yX3_kerningOfPair ∈ G := inG 325 (by decide +kernel) rfl
theorem q326 : Cond.methodLink RX4 248 yX4_lessonWithMostOtherwise ∈ G := inG 326 (by decide +kernel) rfl
theorem q328 : Cond.instanceMethod yX4_lessonWithMostOtherwise ∈ G := inG 328 (by decide +kernel) rfl
theorem q329 : Cond.code yX4_lessonWithMostOtherwise cX4_lessonWithMostOtherwise 4 (some .int) ∈ G := inG 329 (by decide +kernel) rfl
theorem q330 : Cond.methodLink RL 164 yX4_tightShare ∈ G := inG 330 (by decide +kernel) rfl
theorem q331 : Cond.instanceMethod yX4_tightShare ∈ G := inG 331 (by decide +kernel) rfl
theorem q332 : Cond.selects RX4 yX4_tightShare yX4_tightShare ∈ G := inG 332 (by decide +kernel) rfl
theorem q333 : Cond.code yX4_tightShare cX4_tightShare 3 (some .double) ∈ G := inG 333 (by decide +kernel) rfl
theorem q334 : Cond.constantDouble RX4 251 (4636737291354636288) ∈ G := inG 334 (by decide +kernel) rfl
theorem q335 : Cond.methodLink RL 169 yX4_digest ∈ G := inG 335 (by decide +kernel) rfl
theorem q336 : Cond.instanceMethod yX4_digest ∈ G := inG 336 (by decide +kernel) rfl
theorem q337 : Cond.selects RX4 yX4_digest yX4_digest ∈ G := inG 337 (by decide +kernel) rfl
theorem q338 : Cond.code yX4_digest cX4_digest 4 (some .long) ∈ G := inG 338 (by decide +kernel) rfl
theorem q339 : Cond.constantLong RX4 253 (3529) ∈ G := inG 339 (by decide +kernel) rfl
theorem q340 : Cond.methodLink RX4 255 yX4_hashCountsAndSettings ∈ G := inG 340 (by decide +kernel) rfl
theorem q342 : Cond.instanceMethod yX4_hashCountsAndSettings ∈ G := inG 342 (by decide +kernel) rfl
theorem q343 : Cond.code yX4_hashCountsAndSettings cX4_hashCountsAndSettings 6 (some .long) ∈ G := inG 343 (by decide +kernel) rfl
theorem q344 : Cond.methodLink RX4 300 yX4_count ∈ G := inG 344 (by decide +kernel) rfl
theorem q345 : Cond.instanceMethod yX4_count ∈ G := inG 345 (by decide +kernel) rfl
theorem q346 : Cond.selects RX4 yX4_count yX4_count ∈ G := inG 346 (by decide +kernel) rfl
theorem q347 : Cond.code yX4_count cX4_count 2 (some .int) ∈ G := inG 347 (by decide +kernel) rfl
theorem q348 : Cond.methodLink RX4 60 yX4_checkRange ∈ G := inG 348 (by decide +kernel) rfl
theorem q349 : Cond.static yX4_checkRange ∈ G := inG 349 (by decide +kernel) rfl
theorem q350 : Cond.code yX4_checkRange cX4_checkRange 3 none ∈ G := inG 350 (by decide +kernel) rfl
theorem q351 : Cond.classLink RX4 288 "java/lang/IllegalArgumentException" ∈ G := inG 351 (by decide +kernel) rfl
theorem q352 : Cond.instantiable "java/lang/IllegalArgumentException" 6 ∈ G := inG 352 (by decide +kernel) rfl
theorem q360 : Cond.selects "java/lang/IllegalArgumentException" (⟨"java/lang/Throwable", "fillInStackTrace", "(I)Ljava/lang/Throwable;"⟩ : MethodName) (⟨"java/lang/Throwable", "fillInStackTrace", "(I)Ljava/lang/Throwable;"⟩ : MethodName) ∈ G := inG 360 (by decide +kernel) rfl
theorem q361 : Cond.selects "java/lang/IllegalArgumentException" (⟨"java/lang/Throwable", "fillInStackTrace", "()Ljava/lang/Throwable;"⟩ : MethodName) (⟨"java/lang/Throwable", "fillInStackTrace", "()Ljava/lang/Throwable;"⟩ : MethodName) ∈ G := inG 361 (by decide +kernel) rfl
theorem q372 : Cond.fieldLink "java/lang/Throwable" 198 "java/lang/Throwable" "backtrace" "Ljava/lang/Object;" ∈ G := inG 372 (by decide +kernel) rfl
theorem q374 : Cond.instanceMethod (⟨"java/lang/Throwable", "<init>", "()V"⟩ : MethodName) ∈ G := inG 374 (by decide +kernel) rfl
theorem q376 : Cond.methodLink "java/lang/Throwable" 1 objectInit ∈ G := inG 376 (by decide +kernel) rfl
theorem q377 : Cond.fieldLink "java/lang/Throwable" 13 "java/lang/Throwable" "UNASSIGNED_STACK" "[Ljava/lang/StackTraceElement;" ∈ G := inG 377 (by decide +kernel) rfl
theorem q379 : Cond.fieldLink "java/lang/Throwable" 20 "java/lang/Throwable" "SUPPRESSED_SENTINEL" "Ljava/util/List;" ∈ G := inG 379 (by decide +kernel) rfl
theorem q381 : Cond.methodLink "java/lang/Throwable" 27 (⟨"java/lang/Throwable", "fillInStackTrace", "()Ljava/lang/Throwable;"⟩ : MethodName) ∈ G := inG 381 (by decide +kernel) rfl
theorem q382 : Cond.instanceMethod (⟨"java/lang/Throwable", "fillInStackTrace", "()Ljava/lang/Throwable;"⟩ : MethodName) ∈ G := inG 382 (by decide +kernel) rfl
theorem q384 : Cond.selects "java/lang/IllegalStateException" (⟨"java/lang/Throwable", "fillInStackTrace", "()Ljava/lang/Throwable;"⟩ : MethodName) (⟨"java/lang/Throwable", "fillInStackTrace", "()Ljava/lang/Throwable;"⟩ : MethodName) ∈ G := inG 384 (by decide +kernel) rfl
theorem q385 : Cond.selects "java/lang/IndexOutOfBoundsException" (⟨"java/lang/Throwable", "fillInStackTrace", "()Ljava/lang/Throwable;"⟩ : MethodName) (⟨"java/lang/Throwable", "fillInStackTrace", "()Ljava/lang/Throwable;"⟩ : MethodName) ∈ G := inG 385 (by decide +kernel) rfl
theorem q387 : Cond.methodLink "java/lang/Throwable" 202 (⟨"java/lang/Throwable", "fillInStackTrace", "(I)Ljava/lang/Throwable;"⟩ : MethodName) ∈ G := inG 387 (by decide +kernel) rfl
theorem q389 : Cond.instanceMethod (⟨"java/lang/Throwable", "fillInStackTrace", "(I)Ljava/lang/Throwable;"⟩ : MethodName) ∈ G := inG 389 (by decide +kernel) rfl
theorem q390 : Cond.instantiable "java/lang/Throwable" 6 ∈ G := inG 390 (by decide +kernel) rfl
theorem q391 : Cond.native (⟨"java/lang/Throwable", "fillInStackTrace", "(I)Ljava/lang/Throwable;"⟩ : MethodName) ∈ G := inG 391 (by decide +kernel) rfl
theorem q393 : Cond.methodLink RX4 292 (⟨"java/lang/IllegalArgumentException", "<init>", "(Ljava/lang/String;)V"⟩ : MethodName) ∈ G := inG 393 (by decide +kernel) rfl
theorem q394 : Cond.instanceMethod (⟨"java/lang/IllegalArgumentException", "<init>", "(Ljava/lang/String;)V"⟩ : MethodName) ∈ G := inG 394 (by decide +kernel) rfl
theorem q396 : Cond.methodLink "java/lang/IllegalArgumentException" 7 (⟨"java/lang/RuntimeException", "<init>", "(Ljava/lang/String;)V"⟩ : MethodName) ∈ G := inG 396 (by decide +kernel) rfl
theorem q397 : Cond.instanceMethod (⟨"java/lang/RuntimeException", "<init>", "(Ljava/lang/String;)V"⟩ : MethodName) ∈ G := inG 397 (by decide +kernel) rfl
theorem q399 : Cond.methodLink "java/lang/RuntimeException" 7 (⟨"java/lang/Exception", "<init>", "(Ljava/lang/String;)V"⟩ : MethodName) ∈ G := inG 399 (by decide +kernel) rfl
theorem q400 : Cond.instanceMethod (⟨"java/lang/Exception", "<init>", "(Ljava/lang/String;)V"⟩ : MethodName) ∈ G := inG 400 (by decide +kernel) rfl
theorem q402 : Cond.methodLink "java/lang/Exception" 7 (⟨"java/lang/Throwable", "<init>", "(Ljava/lang/String;)V"⟩ : MethodName) ∈ G := inG 402 (by decide +kernel) rfl
theorem q403 : Cond.instanceMethod (⟨"java/lang/Throwable", "<init>", "(Ljava/lang/String;)V"⟩ : MethodName) ∈ G := inG 403 (by decide +kernel) rfl
theorem q405 : Cond.fieldLink "java/lang/Throwable" 198 "java/lang/Throwable" "backtrace" "Ljava/lang/Object;" ∈ G := inG 405 (by decide +kernel) rfl
theorem q406 : Cond.fieldLink "java/lang/Throwable" 31 "java/lang/Throwable" "detailMessage" "Ljava/lang/String;" ∈ G := inG 406 (by decide +kernel) rfl
theorem q407 : Cond.fieldLink "java/lang/Throwable" 7 "java/lang/Throwable" "cause" "Ljava/lang/Throwable;" ∈ G := inG 407 (by decide +kernel) rfl
theorem q408 : Cond.fieldLink "java/lang/Throwable" 17 "java/lang/Throwable" "stackTrace" "[Ljava/lang/StackTraceElement;" ∈ G := inG 408 (by decide +kernel) rfl
theorem q409 : Cond.fieldLink "java/lang/Throwable" 24 "java/lang/Throwable" "suppressedExceptions" "Ljava/util/List;" ∈ G := inG 409 (by decide +kernel) rfl
theorem q418 : Cond.arrayClass .byte ∈ G := inG 418 (by decide +kernel) rfl
theorem q419 : Cond.methodLink RX4 199 yX2_idleLessons ∈ G := inG 419 (by decide +kernel) rfl
theorem q420 : Cond.instanceMethod yX2_idleLessons ∈ G := inG 420 (by decide +kernel) rfl
theorem q421 : Cond.selects RX2 yX2_idleLessons yX2_idleLessons ∈ G := inG 421 (by decide +kernel) rfl
theorem q422 : Cond.code yX2_idleLessons cX2_idleLessons 3 (some .int) ∈ G := inG 422 (by decide +kernel) rfl
theorem q423 : Cond.methodLink RX4 205 yX2_shapesOffTheirBase ∈ G := inG 423 (by decide +kernel) rfl
theorem q424 : Cond.instanceMethod yX2_shapesOffTheirBase ∈ G := inG 424 (by decide +kernel) rfl
theorem q425 : Cond.selects RX2 yX2_shapesOffTheirBase yX2_shapesOffTheirBase ∈ G := inG 425 (by decide +kernel) rfl
theorem q426 : Cond.code yX2_shapesOffTheirBase cX2_shapesOffTheirBase 3 (some .int) ∈ G := inG 426 (by decide +kernel) rfl
theorem q427 : Cond.methodLink RX4 274 yX4_hashWith ∈ G := inG 427 (by decide +kernel) rfl
theorem q428 : Cond.static yX4_hashWith ∈ G := inG 428 (by decide +kernel) rfl
theorem q429 : Cond.code yX4_hashWith cX4_hashWith 4 (some .long) ∈ G := inG 429 (by decide +kernel) rfl
theorem q430 : Cond.constantLong RX4 298 (31) ∈ G := inG 430 (by decide +kernel) rfl
theorem q431 : Cond.methodLink RX4 259 yX4_hashLetters ∈ G := inG 431 (by decide +kernel) rfl
theorem q433 : Cond.instanceMethod yX4_hashLetters ∈ G := inG 433 (by decide +kernel) rfl
theorem q434 : Cond.code yX4_hashLetters cX4_hashLetters 7 (some .long) ∈ G := inG 434 (by decide +kernel) rfl
theorem q435 : Cond.methodLink RX4 303 yX4_letterOf ∈ G := inG 435 (by decide +kernel) rfl
theorem q436 : Cond.instanceMethod yX4_letterOf ∈ G := inG 436 (by decide +kernel) rfl
theorem q437 : Cond.selects RX4 yX4_letterOf yX4_letterOf ∈ G := inG 437 (by decide +kernel) rfl
theorem q438 : Cond.code yX4_letterOf cX4_letterOf 3 (some .int) ∈ G := inG 438 (by decide +kernel) rfl
theorem q439 : Cond.methodLink RX4 56 yX4_checkLetter ∈ G := inG 439 (by decide +kernel) rfl
theorem q440 : Cond.static yX4_checkLetter ∈ G := inG 440 (by decide +kernel) rfl
theorem q441 : Cond.code yX4_checkLetter cX4_checkLetter 1 none ∈ G := inG 441 (by decide +kernel) rfl
theorem q442 : Cond.methodLink RX4 79 yX4_checkIndex ∈ G := inG 442 (by decide +kernel) rfl
theorem q443 : Cond.static yX4_checkIndex ∈ G := inG 443 (by decide +kernel) rfl
theorem q444 : Cond.code yX4_checkIndex cX4_checkIndex 2 none ∈ G := inG 444 (by decide +kernel) rfl
theorem q445 : Cond.classLink RX4 142 "java/lang/IndexOutOfBoundsException" ∈ G := inG 445 (by decide +kernel) rfl
theorem q446 : Cond.instantiable "java/lang/IndexOutOfBoundsException" 6 ∈ G := inG 446 (by decide +kernel) rfl
theorem q448 : Cond.selects "java/lang/IndexOutOfBoundsException" (⟨"java/lang/Throwable", "fillInStackTrace", "(I)Ljava/lang/Throwable;"⟩ : MethodName) (⟨"java/lang/Throwable", "fillInStackTrace", "(I)Ljava/lang/Throwable;"⟩ : MethodName) ∈ G := inG 448 (by decide +kernel) rfl
theorem q455 : Cond.methodLink RX4 146 (⟨"java/lang/IndexOutOfBoundsException", "<init>", "(Ljava/lang/String;)V"⟩ : MethodName) ∈ G := inG 455 (by decide +kernel) rfl
theorem q456 : Cond.instanceMethod (⟨"java/lang/IndexOutOfBoundsException", "<init>", "(Ljava/lang/String;)V"⟩ : MethodName) ∈ G := inG 456 (by decide +kernel) rfl
theorem q458 : Cond.methodLink "java/lang/IndexOutOfBoundsException" 7 (⟨"java/lang/RuntimeException", "<init>", "(Ljava/lang/String;)V"⟩ : MethodName) ∈ G := inG 458 (by decide +kernel) rfl
theorem q461 : Cond.methodLink RX4 158 yX2_lessonsWithLetter ∈ G := inG 461 (by decide +kernel) rfl
theorem q462 : Cond.instanceMethod yX2_lessonsWithLetter ∈ G := inG 462 (by decide +kernel) rfl
theorem q463 : Cond.selects RX2 yX2_lessonsWithLetter yX2_lessonsWithLetter ∈ G := inG 463 (by decide +kernel) rfl
theorem q464 : Cond.code yX2_lessonsWithLetter cX2_lessonsWithLetter 4 (some .int) ∈ G := inG 464 (by decide +kernel) rfl
theorem q465 : Cond.methodLink RX4 262 yX4_hashPairs ∈ G := inG 465 (by decide +kernel) rfl
theorem q467 : Cond.instanceMethod yX4_hashPairs ∈ G := inG 467 (by decide +kernel) rfl
theorem q468 : Cond.code yX4_hashPairs cX4_hashPairs 7 (some .long) ∈ G := inG 468 (by decide +kernel) rfl
theorem q469 : Cond.methodLink RX4 306 yX4_pairOf ∈ G := inG 469 (by decide +kernel) rfl
theorem q470 : Cond.instanceMethod yX4_pairOf ∈ G := inG 470 (by decide +kernel) rfl
theorem q471 : Cond.selects RX4 yX4_pairOf yX4_pairOf ∈ G := inG 471 (by decide +kernel) rfl
theorem q472 : Cond.code yX4_pairOf cX4_pairOf 5 (some .int) ∈ G := inG 472 (by decide +kernel) rfl
theorem q473 : Cond.methodLink RX4 265 yX4_hashShapes ∈ G := inG 473 (by decide +kernel) rfl
theorem q475 : Cond.instanceMethod yX4_hashShapes ∈ G := inG 475 (by decide +kernel) rfl
theorem q476 : Cond.code yX4_hashShapes cX4_hashShapes 8 (some .long) ∈ G := inG 476 (by decide +kernel) rfl
theorem q477 : Cond.methodLink RX4 310 yX4_shapesOf ∈ G := inG 477 (by decide +kernel) rfl
theorem q478 : Cond.instanceMethod yX4_shapesOf ∈ G := inG 478 (by decide +kernel) rfl
theorem q479 : Cond.selects RX4 yX4_shapesOf yX4_shapesOf ∈ G := inG 479 (by decide +kernel) rfl
theorem q480 : Cond.code yX4_shapesOf cX4_shapesOf 5 (some .int) ∈ G := inG 480 (by decide +kernel) rfl
theorem q481 : Cond.methodLink RX4 184 yX2_pairsWithShapes ∈ G := inG 481 (by decide +kernel) rfl
theorem q482 : Cond.instanceMethod yX2_pairsWithShapes ∈ G := inG 482 (by decide +kernel) rfl
theorem q483 : Cond.selects RX2 yX2_pairsWithShapes yX2_pairsWithShapes ∈ G := inG 483 (by decide +kernel) rfl
theorem q484 : Cond.code yX2_pairsWithShapes cX2_pairsWithShapes 4 (some .int) ∈ G := inG 484 (by decide +kernel) rfl
theorem q485 : Cond.methodLink RX2 73 yX2_shapesOfPair ∈ G := inG 485 (by decide +kernel) rfl
theorem q486 : Cond.methodLink RX4 187 yX2_learntPairsWithShapes ∈ G := inG 486 (by decide +kernel) rfl
theorem q487 : Cond.instanceMethod yX2_learntPairsWithShapes ∈ G := inG 487 (by decide +kernel) rfl
theorem q488 : Cond.selects RX2 yX2_learntPairsWithShapes yX2_learntPairsWithShapes ∈ G := inG 488 (by decide +kernel) rfl
theorem q489 : Cond.code yX2_learntPairsWithShapes cX2_learntPairsWithShapes 4 (some .int) ∈ G := inG 489 (by decide +kernel) rfl
theorem q490 : Cond.methodLink RX4 268 yX4_hashLessons ∈ G := inG 490 (by decide +kernel) rfl
theorem q492 : Cond.instanceMethod yX4_hashLessons ∈ G := inG 492 (by decide +kernel) rfl
theorem q493 : Cond.code yX4_hashLessons cX4_hashLessons 7 (some .long) ∈ G := inG 493 (by decide +kernel) rfl
theorem q494 : Cond.methodLink RX4 313 yX4_lessonOf ∈ G := inG 494 (by decide +kernel) rfl
theorem q495 : Cond.instanceMethod yX4_lessonOf ∈ G := inG 495 (by decide +kernel) rfl
theorem q496 : Cond.selects RX4 yX4_lessonOf yX4_lessonOf ∈ G := inG 496 (by decide +kernel) rfl
theorem q497 : Cond.code yX4_lessonOf cX4_lessonOf 3 (some .int) ∈ G := inG 497 (by decide +kernel) rfl
theorem q498 : Cond.methodLink RX4 271 yX4_text ∈ G := inG 498 (by decide +kernel) rfl
theorem q499 : Cond.instanceMethod yX4_text ∈ G := inG 499 (by decide +kernel) rfl
theorem q500 : Cond.selects RX4 yX4_text yX4_text ∈ G := inG 500 (by decide +kernel) rfl
theorem q501 : Cond.code yX4_text cX4_text 2 (some .int) ∈ G := inG 501 (by decide +kernel) rfl
theorem q502 : Cond.methodLink RX4 132 yX0_tellsText ∈ G := inG 502 (by decide +kernel) rfl
theorem q503 : Cond.instanceMethod yX0_tellsText ∈ G := inG 503 (by decide +kernel) rfl
theorem q504 : Cond.selects RX0 yX0_tellsText yX0_tellsText ∈ G := inG 504 (by decide +kernel) rfl
theorem q505 : Cond.code yX0_tellsText cX0_tellsText 1 (some .boolean) ∈ G := inG 505 (by decide +kernel) rfl
theorem q506 : Cond.methodLink RX0 27 yX0_firstWrongPlace ∈ G := inG 506 (by decide +kernel) rfl
theorem q507 : Cond.methodLink RX4 214 yX1_findWords ∈ G := inG 507 (by decide +kernel) rfl
theorem q508 : Cond.instanceMethod yX1_findWords ∈ G := inG 508 (by decide +kernel) rfl
theorem q509 : Cond.selects RX1 yX1_findWords yX1_findWords ∈ G := inG 509 (by decide +kernel) rfl
theorem q510 : Cond.code yX1_findWords cX1_findWords 4 none ∈ G := inG 510 (by decide +kernel) rfl
theorem q511 : Cond.methodLink RX1 69 yJ7_fill_53178 ∈ G := inG 511 (by decide +kernel) rfl
theorem q512 : Cond.methodLink RX1 28 yX0_hasLetterAt ∈ G := inG 512 (by decide +kernel) rfl
theorem q513 : Cond.methodLink RX1 65 yX1_widthAt ∈ G := inG 513 (by decide +kernel) rfl
theorem q515 : Cond.instanceMethod yX1_widthAt ∈ G := inG 515 (by decide +kernel) rfl
theorem q516 : Cond.code yX1_widthAt cX1_widthAt 5 (some .int) ∈ G := inG 516 (by decide +kernel) rfl
theorem q517 : Cond.methodLink RX1 42 yX0_letterAt ∈ G := inG 517 (by decide +kernel) rfl
theorem q518 : Cond.instanceMethod yX0_letterAt ∈ G := inG 518 (by decide +kernel) rfl
theorem q519 : Cond.selects RX0 yX0_letterAt yX0_letterAt ∈ G := inG 519 (by decide +kernel) rfl
theorem q520 : Cond.code yX0_letterAt cX0_letterAt 2 (some .int) ∈ G := inG 520 (by decide +kernel) rfl
theorem q521 : Cond.methodLink RX1 46 yX0_hasPairAt ∈ G := inG 521 (by decide +kernel) rfl
theorem q522 : Cond.instanceMethod yX0_hasPairAt ∈ G := inG 522 (by decide +kernel) rfl
theorem q523 : Cond.selects RX0 yX0_hasPairAt yX0_hasPairAt ∈ G := inG 523 (by decide +kernel) rfl
theorem q524 : Cond.code yX0_hasPairAt cX0_hasPairAt 2 (some .boolean) ∈ G := inG 524 (by decide +kernel) rfl
theorem q525 : Cond.methodLink RX1 53 yX0_pairAt ∈ G := inG 525 (by decide +kernel) rfl
theorem q526 : Cond.instanceMethod yX0_pairAt ∈ G := inG 526 (by decide +kernel) rfl
theorem q527 : Cond.selects RX0 yX0_pairAt yX0_pairAt ∈ G := inG 527 (by decide +kernel) rfl
theorem q528 : Cond.code yX0_pairAt cX0_pairAt 2 (some .int) ∈ G := inG 528 (by decide +kernel) rfl
theorem q529 : Cond.methodLink RX0 23 yX0_letterAt ∈ G := inG 529 (by decide +kernel) rfl
theorem q530 : Cond.methodLink RX1 56 yX3_kerningOfPair ∈ G := inG 530 (by decide +kernel) rfl
theorem q531 : Cond.methodLink RX4 218 yX1_widthByPlaces ∈ G := inG 531 (by decide +kernel) rfl
theorem q532 : Cond.instanceMethod yX1_widthByPlaces ∈ G := inG 532 (by decide +kernel) rfl
theorem q533 : Cond.selects RX1 yX1_widthByPlaces yX1_widthByPlaces ∈ G := inG 533 (by decide +kernel) rfl
theorem q534 : Cond.code yX1_widthByPlaces cX1_widthByPlaces 5 (some .int) ∈ G := inG 534 (by decide +kernel) rfl
theorem q535 : Cond.methodLink RX4 222 yX1_widthByCounts ∈ G := inG 535 (by decide +kernel) rfl
theorem q536 : Cond.instanceMethod yX1_widthByCounts ∈ G := inG 536 (by decide +kernel) rfl
theorem q537 : Cond.selects RX1 yX1_widthByCounts yX1_widthByCounts ∈ G := inG 537 (by decide +kernel) rfl
theorem q538 : Cond.code yX1_widthByCounts cX1_widthByCounts 6 (some .int) ∈ G := inG 538 (by decide +kernel) rfl
theorem q539 : Cond.methodLink RX4 228 yX1_widestWord ∈ G := inG 539 (by decide +kernel) rfl
theorem q540 : Cond.instanceMethod yX1_widestWord ∈ G := inG 540 (by decide +kernel) rfl
theorem q541 : Cond.selects RX1 yX1_widestWord yX1_widestWord ∈ G := inG 541 (by decide +kernel) rfl
theorem q542 : Cond.code yX1_widestWord cX1_widestWord 3 (some .int) ∈ G := inG 542 (by decide +kernel) rfl
theorem q543 : Cond.methodLink RX1 75 Lib.Math.max.name ∈ G := inG 543 (by decide +kernel) rfl
theorem q544 : Cond.methodLink RX4 231 yX1_linesByFilling ∈ G := inG 544 (by decide +kernel) rfl
theorem q545 : Cond.instanceMethod yX1_linesByFilling ∈ G := inG 545 (by decide +kernel) rfl
theorem q546 : Cond.selects RX1 yX1_linesByFilling yX1_linesByFilling ∈ G := inG 546 (by decide +kernel) rfl
theorem q547 : Cond.code yX1_linesByFilling cX1_linesByFilling 6 (some .int) ∈ G := inG 547 (by decide +kernel) rfl
theorem q548 : Cond.methodLink RX4 235 yX1_linesFromBehind ∈ G := inG 548 (by decide +kernel) rfl
theorem q549 : Cond.instanceMethod yX1_linesFromBehind ∈ G := inG 549 (by decide +kernel) rfl
theorem q550 : Cond.selects RX1 yX1_linesFromBehind yX1_linesFromBehind ∈ G := inG 550 (by decide +kernel) rfl
theorem q551 : Cond.code yX1_linesFromBehind cX1_linesFromBehind 6 (some .int) ∈ G := inG 551 (by decide +kernel) rfl
theorem q552 : Cond.methodLink RX1 81 Lib.Math.min.name ∈ G := inG 552 (by decide +kernel) rfl
theorem q553 : Cond.methodLink RX4 278 yX4_tightShare ∈ G := inG 553 (by decide +kernel) rfl
theorem q554 : Cond.methodLink RX4 282 yX4_bitsOfShare ∈ G := inG 554 (by decide +kernel) rfl
theorem q555 : Cond.static yX4_bitsOfShare ∈ G := inG 555 (by decide +kernel) rfl
theorem q556 : Cond.code yX4_bitsOfShare cX4_bitsOfShare 8 (some .long) ∈ G := inG 556 (by decide +kernel) rfl
theorem q557 : Cond.constantLong RX4 316 (1023) ∈ G := inG 557 (by decide +kernel) rfl
theorem q558 : Cond.constantDouble RX4 318 (4611686018427387904) ∈ G := inG 558 (by decide +kernel) rfl
theorem q559 : Cond.constantDouble RX4 320 (4841369599423283200) ∈ G := inG 559 (by decide +kernel) rfl
theorem q560 : Cond.methodLink RL 83 yL_width ∈ G := inG 560 (by decide +kernel) rfl
theorem q561 : Cond.static yL_width ∈ G := inG 561 (by decide +kernel) rfl
theorem q563 : Cond.classLink RL 13 "java/lang/IndexOutOfBoundsException" ∈ G := inG 563 (by decide +kernel) rfl
theorem q564 : Cond.classLink RL 15 "java/lang/IllegalArgumentException" ∈ G := inG 564 (by decide +kernel) rfl
theorem q565 : Cond.methodLink RL 7 yX4_width ∈ G := inG 565 (by decide +kernel) rfl
theorem q566 : Cond.instanceMethod yX4_width ∈ G := inG 566 (by decide +kernel) rfl
theorem q567 : Cond.selects RX4 yX4_width yX4_width ∈ G := inG 567 (by decide +kernel) rfl
theorem q568 : Cond.code yX4_width cX4_width 4 (some .int) ∈ G := inG 568 (by decide +kernel) rfl
theorem q569 : Cond.methodLink RX4 64 yX4_saveState ∈ G := inG 569 (by decide +kernel) rfl
theorem q571 : Cond.instanceMethod yX4_saveState ∈ G := inG 571 (by decide +kernel) rfl
theorem q572 : Cond.code yX4_saveState cX4_saveState 3 none ∈ G := inG 572 (by decide +kernel) rfl
theorem q573 : Cond.methodLink RX4 150 yX2_becomeLike ∈ G := inG 573 (by decide +kernel) rfl
theorem q574 : Cond.instanceMethod yX2_becomeLike ∈ G := inG 574 (by decide +kernel) rfl
theorem q575 : Cond.selects RX2 yX2_becomeLike yX2_becomeLike ∈ G := inG 575 (by decide +kernel) rfl
theorem q576 : Cond.code yX2_becomeLike cX2_becomeLike 2 none ∈ G := inG 576 (by decide +kernel) rfl
theorem q577 : Cond.methodLink RX2 56 arraycopyName ∈ G := inG 577 (by decide +kernel) rfl
theorem q578 : Cond.methodLink RX2 62 yX3_becomeLike ∈ G := inG 578 (by decide +kernel) rfl
theorem q579 : Cond.instanceMethod yX3_becomeLike ∈ G := inG 579 (by decide +kernel) rfl
theorem q580 : Cond.selects RX3 yX3_becomeLike yX3_becomeLike ∈ G := inG 580 (by decide +kernel) rfl
theorem q581 : Cond.code yX3_becomeLike cX3_becomeLike 2 none ∈ G := inG 581 (by decide +kernel) rfl
theorem q582 : Cond.methodLink RL 92 yL_shape ∈ G := inG 582 (by decide +kernel) rfl
theorem q583 : Cond.static yL_shape ∈ G := inG 583 (by decide +kernel) rfl
theorem q585 : Cond.methodLink RL 17 yX4_shape ∈ G := inG 585 (by decide +kernel) rfl
theorem q586 : Cond.instanceMethod yX4_shape ∈ G := inG 586 (by decide +kernel) rfl
theorem q587 : Cond.selects RX4 yX4_shape yX4_shape ∈ G := inG 587 (by decide +kernel) rfl
theorem q588 : Cond.code yX4_shape cX4_shape 5 (some .int) ∈ G := inG 588 (by decide +kernel) rfl
theorem q589 : Cond.methodLink RX4 76 yX2_goThroughAgain ∈ G := inG 589 (by decide +kernel) rfl
theorem q590 : Cond.instanceMethod yX2_goThroughAgain ∈ G := inG 590 (by decide +kernel) rfl
theorem q591 : Cond.selects RX2 yX2_goThroughAgain yX2_goThroughAgain ∈ G := inG 591 (by decide +kernel) rfl
theorem q592 : Cond.code yX2_goThroughAgain cX2_goThroughAgain 1 none ∈ G := inG 592 (by decide +kernel) rfl
theorem q593 : Cond.methodLink RX2 66 yX3_learnAllBut ∈ G := inG 593 (by decide +kernel) rfl
theorem q594 : Cond.methodLink RL 96 yL_base ∈ G := inG 594 (by decide +kernel) rfl
theorem q595 : Cond.static yL_base ∈ G := inG 595 (by decide +kernel) rfl
theorem q597 : Cond.methodLink RL 21 yX4_base ∈ G := inG 597 (by decide +kernel) rfl
theorem q598 : Cond.instanceMethod yX4_base ∈ G := inG 598 (by decide +kernel) rfl
theorem q599 : Cond.selects RX4 yX4_base yX4_base ∈ G := inG 599 (by decide +kernel) rfl
theorem q600 : Cond.code yX4_base cX4_base 6 (some .int) ∈ G := inG 600 (by decide +kernel) rfl
theorem q601 : Cond.methodLink RL 99 yL_set ∈ G := inG 601 (by decide +kernel) rfl
theorem q602 : Cond.static yL_set ∈ G := inG 602 (by decide +kernel) rfl
theorem q604 : Cond.methodLink RL 24 yX4_set ∈ G := inG 604 (by decide +kernel) rfl
theorem q605 : Cond.instanceMethod yX4_set ∈ G := inG 605 (by decide +kernel) rfl
theorem q606 : Cond.selects RX4 yX4_set yX4_set ∈ G := inG 606 (by decide +kernel) rfl
theorem q607 : Cond.code yX4_set cX4_set 4 (some .int) ∈ G := inG 607 (by decide +kernel) rfl
theorem q608 : Cond.fieldLink RX4 86 "KernLessons" "LEAST_SETTING" "[I" ∈ G := inG 608 (by decide +kernel) rfl
theorem q610 : Cond.fieldLink RX4 89 "KernLessons" "MOST_SETTING" "[I" ∈ G := inG 610 (by decide +kernel) rfl
theorem q612 : Cond.methodLink RL 102 yL_circle ∈ G := inG 612 (by decide +kernel) rfl
theorem q613 : Cond.static yL_circle ∈ G := inG 613 (by decide +kernel) rfl
theorem q615 : Cond.methodLink RL 27 yX4_circle ∈ G := inG 615 (by decide +kernel) rfl
theorem q616 : Cond.instanceMethod yX4_circle ∈ G := inG 616 (by decide +kernel) rfl
theorem q617 : Cond.selects RX4 yX4_circle yX4_circle ∈ G := inG 617 (by decide +kernel) rfl
theorem q618 : Cond.code yX4_circle cX4_circle 4 (some .int) ∈ G := inG 618 (by decide +kernel) rfl
theorem q619 : Cond.methodLink RX4 95 yX4_checkTold ∈ G := inG 619 (by decide +kernel) rfl
theorem q620 : Cond.static yX4_checkTold ∈ G := inG 620 (by decide +kernel) rfl
theorem q621 : Cond.code yX4_checkTold cX4_checkTold 1 none ∈ G := inG 621 (by decide +kernel) rfl
theorem q623 : Cond.methodLink RX4 98 yX4_learnCircle ∈ G := inG 623 (by decide +kernel) rfl
theorem q625 : Cond.instanceMethod yX4_learnCircle ∈ G := inG 625 (by decide +kernel) rfl
theorem q626 : Cond.code yX4_learnCircle cX4_learnCircle 3 (some .int) ∈ G := inG 626 (by decide +kernel) rfl
theorem q627 : Cond.methodLink RX4 241 yX3_learn ∈ G := inG 627 (by decide +kernel) rfl
theorem q628 : Cond.methodLink RX4 295 yX2_addLesson ∈ G := inG 628 (by decide +kernel) rfl
theorem q629 : Cond.instanceMethod yX2_addLesson ∈ G := inG 629 (by decide +kernel) rfl
theorem q630 : Cond.selects RX2 yX2_addLesson yX2_addLesson ∈ G := inG 630 (by decide +kernel) rfl
theorem q631 : Cond.code yX2_addLesson cX2_addLesson 3 none ∈ G := inG 631 (by decide +kernel) rfl
theorem q632 : Cond.methodLink RL 105 yL_forget ∈ G := inG 632 (by decide +kernel) rfl
theorem q633 : Cond.static yL_forget ∈ G := inG 633 (by decide +kernel) rfl
theorem q635 : Cond.methodLink RL 30 yX4_forget ∈ G := inG 635 (by decide +kernel) rfl
theorem q636 : Cond.instanceMethod yX4_forget ∈ G := inG 636 (by decide +kernel) rfl
theorem q637 : Cond.selects RX4 yX4_forget yX4_forget ∈ G := inG 637 (by decide +kernel) rfl
theorem q638 : Cond.code yX4_forget cX4_forget 3 (some .int) ∈ G := inG 638 (by decide +kernel) rfl
theorem q639 : Cond.methodLink RX4 109 yX2_dropLesson ∈ G := inG 639 (by decide +kernel) rfl
theorem q640 : Cond.instanceMethod yX2_dropLesson ∈ G := inG 640 (by decide +kernel) rfl
theorem q641 : Cond.selects RX2 yX2_dropLesson yX2_dropLesson ∈ G := inG 641 (by decide +kernel) rfl
theorem q642 : Cond.code yX2_dropLesson cX2_dropLesson 3 none ∈ G := inG 642 (by decide +kernel) rfl
theorem q643 : Cond.methodLink RL 109 yL_append ∈ G := inG 643 (by decide +kernel) rfl
theorem q644 : Cond.static yL_append ∈ G := inG 644 (by decide +kernel) rfl
theorem q646 : Cond.classLink RL 37 "java/lang/IllegalStateException" ∈ G := inG 646 (by decide +kernel) rfl
theorem q647 : Cond.methodLink RL 34 yX4_append ∈ G := inG 647 (by decide +kernel) rfl
theorem q648 : Cond.instanceMethod yX4_append ∈ G := inG 648 (by decide +kernel) rfl
theorem q649 : Cond.selects RX4 yX4_append yX4_append ∈ G := inG 649 (by decide +kernel) rfl
theorem q650 : Cond.code yX4_append cX4_append 2 (some .int) ∈ G := inG 650 (by decide +kernel) rfl
theorem q651 : Cond.classLink RX4 118 "java/lang/IllegalStateException" ∈ G := inG 651 (by decide +kernel) rfl
theorem q652 : Cond.instantiable "java/lang/IllegalStateException" 6 ∈ G := inG 652 (by decide +kernel) rfl
theorem q654 : Cond.selects "java/lang/IllegalStateException" (⟨"java/lang/Throwable", "fillInStackTrace", "(I)Ljava/lang/Throwable;"⟩ : MethodName) (⟨"java/lang/Throwable", "fillInStackTrace", "(I)Ljava/lang/Throwable;"⟩ : MethodName) ∈ G := inG 654 (by decide +kernel) rfl
theorem q661 : Cond.methodLink RX4 122 (⟨"java/lang/IllegalStateException", "<init>", "(Ljava/lang/String;)V"⟩ : MethodName) ∈ G := inG 661 (by decide +kernel) rfl
theorem q662 : Cond.instanceMethod (⟨"java/lang/IllegalStateException", "<init>", "(Ljava/lang/String;)V"⟩ : MethodName) ∈ G := inG 662 (by decide +kernel) rfl
theorem q664 : Cond.methodLink "java/lang/IllegalStateException" 7 (⟨"java/lang/RuntimeException", "<init>", "(Ljava/lang/String;)V"⟩ : MethodName) ∈ G := inG 664 (by decide +kernel) rfl
theorem q667 : Cond.methodLink RL 120 yL_circleAt ∈ G := inG 667 (by decide +kernel) rfl
theorem q668 : Cond.static yL_circleAt ∈ G := inG 668 (by decide +kernel) rfl
theorem q670 : Cond.methodLink RL 39 yX4_circleAt ∈ G := inG 670 (by decide +kernel) rfl
theorem q671 : Cond.instanceMethod yX4_circleAt ∈ G := inG 671 (by decide +kernel) rfl
theorem q672 : Cond.selects RX4 yX4_circleAt yX4_circleAt ∈ G := inG 672 (by decide +kernel) rfl
theorem q673 : Cond.code yX4_circleAt cX4_circleAt 3 (some .int) ∈ G := inG 673 (by decide +kernel) rfl
theorem q675 : Cond.methodLink RX4 138 yX0_hasPairAt ∈ G := inG 675 (by decide +kernel) rfl
theorem q677 : Cond.methodLink RX4 147 yX0_pairAt ∈ G := inG 677 (by decide +kernel) rfl
theorem q678 : Cond.methodLink RL 123 yL_keep ∈ G := inG 678 (by decide +kernel) rfl
theorem q679 : Cond.static yL_keep ∈ G := inG 679 (by decide +kernel) rfl
theorem q681 : Cond.methodLink RL 42 yX4_keep ∈ G := inG 681 (by decide +kernel) rfl
theorem q682 : Cond.instanceMethod yX4_keep ∈ G := inG 682 (by decide +kernel) rfl
theorem q683 : Cond.selects RX4 yX4_keep yX4_keep ∈ G := inG 683 (by decide +kernel) rfl
theorem q684 : Cond.code yX4_keep cX4_keep 2 (some .int) ∈ G := inG 684 (by decide +kernel) rfl
theorem q685 : Cond.methodLink RL 126 yL_goBack ∈ G := inG 685 (by decide +kernel) rfl
theorem q686 : Cond.static yL_goBack ∈ G := inG 686 (by decide +kernel) rfl
theorem q688 : Cond.methodLink RL 45 yX4_goBack ∈ G := inG 688 (by decide +kernel) rfl
theorem q689 : Cond.instanceMethod yX4_goBack ∈ G := inG 689 (by decide +kernel) rfl
theorem q690 : Cond.selects RX4 yX4_goBack yX4_goBack ∈ G := inG 690 (by decide +kernel) rfl
theorem q691 : Cond.code yX4_goBack cX4_goBack 2 (some .int) ∈ G := inG 691 (by decide +kernel) rfl
theorem q693 : Cond.methodLink RL 129 yL_undo ∈ G := inG 693 (by decide +kernel) rfl
theorem q694 : Cond.static yL_undo ∈ G := inG 694 (by decide +kernel) rfl
theorem q696 : Cond.methodLink RL 48 yX4_undo ∈ G := inG 696 (by decide +kernel) rfl
theorem q697 : Cond.instanceMethod yX4_undo ∈ G := inG 697 (by decide +kernel) rfl
theorem q698 : Cond.selects RX4 yX4_undo yX4_undo ∈ G := inG 698 (by decide +kernel) rfl
theorem q699 : Cond.code yX4_undo cX4_undo 1 (some .int) ∈ G := inG 699 (by decide +kernel) rfl
theorem q701 : Cond.methodLink RL 133 yL_letterOf ∈ G := inG 701 (by decide +kernel) rfl
theorem q702 : Cond.static yL_letterOf ∈ G := inG 702 (by decide +kernel) rfl
theorem q704 : Cond.methodLink RL 52 yX4_letterOf ∈ G := inG 704 (by decide +kernel) rfl
theorem q705 : Cond.methodLink RL 136 yL_pairOf ∈ G := inG 705 (by decide +kernel) rfl
theorem q706 : Cond.static yL_pairOf ∈ G := inG 706 (by decide +kernel) rfl
theorem q708 : Cond.methodLink RL 55 yX4_pairOf ∈ G := inG 708 (by decide +kernel) rfl
theorem q709 : Cond.methodLink RL 139 yL_shapesOf ∈ G := inG 709 (by decide +kernel) rfl
theorem q710 : Cond.static yL_shapesOf ∈ G := inG 710 (by decide +kernel) rfl
theorem q712 : Cond.methodLink RL 58 yX4_shapesOf ∈ G := inG 712 (by decide +kernel) rfl
theorem q713 : Cond.methodLink RL 142 yL_lessonOf ∈ G := inG 713 (by decide +kernel) rfl
theorem q714 : Cond.static yL_lessonOf ∈ G := inG 714 (by decide +kernel) rfl
theorem q716 : Cond.methodLink RL 61 yX4_lessonOf ∈ G := inG 716 (by decide +kernel) rfl
theorem q717 : Cond.methodLink RL 145 yL_count ∈ G := inG 717 (by decide +kernel) rfl
theorem q718 : Cond.static yL_count ∈ G := inG 718 (by decide +kernel) rfl
theorem q720 : Cond.methodLink RL 64 yX4_count ∈ G := inG 720 (by decide +kernel) rfl
theorem q721 : Cond.methodLink RL 148 yL_setting ∈ G := inG 721 (by decide +kernel) rfl
theorem q722 : Cond.static yL_setting ∈ G := inG 722 (by decide +kernel) rfl
theorem q724 : Cond.methodLink RL 67 yX4_setting ∈ G := inG 724 (by decide +kernel) rfl
theorem q725 : Cond.instanceMethod yX4_setting ∈ G := inG 725 (by decide +kernel) rfl
theorem q726 : Cond.selects RX4 yX4_setting yX4_setting ∈ G := inG 726 (by decide +kernel) rfl
theorem q727 : Cond.code yX4_setting cX4_setting 2 (some .int) ∈ G := inG 727 (by decide +kernel) rfl
theorem q728 : Cond.methodLink RL 151 yL_text ∈ G := inG 728 (by decide +kernel) rfl
theorem q729 : Cond.static yL_text ∈ G := inG 729 (by decide +kernel) rfl
theorem q731 : Cond.methodLink RL 70 yX4_text ∈ G := inG 731 (by decide +kernel) rfl
theorem q732 : Cond.methodLink RL 154 yL_ifCircled ∈ G := inG 732 (by decide +kernel) rfl
theorem q733 : Cond.static yL_ifCircled ∈ G := inG 733 (by decide +kernel) rfl
theorem q735 : Cond.methodLink RL 73 yX4_ifCircled ∈ G := inG 735 (by decide +kernel) rfl
theorem q736 : Cond.instanceMethod yX4_ifCircled ∈ G := inG 736 (by decide +kernel) rfl
theorem q737 : Cond.selects RX4 yX4_ifCircled yX4_ifCircled ∈ G := inG 737 (by decide +kernel) rfl
theorem q738 : Cond.code yX4_ifCircled cX4_ifCircled 6 (some .int) ∈ G := inG 738 (by decide +kernel) rfl
theorem q739 : Cond.methodLink RX4 238 yX3_becomeLike ∈ G := inG 739 (by decide +kernel) rfl
theorem q740 : Cond.methodLink RL 157 yL_ifForgotten ∈ G := inG 740 (by decide +kernel) rfl
theorem q741 : Cond.static yL_ifForgotten ∈ G := inG 741 (by decide +kernel) rfl
theorem q743 : Cond.methodLink RL 76 yX4_ifForgotten ∈ G := inG 743 (by decide +kernel) rfl
theorem q744 : Cond.instanceMethod yX4_ifForgotten ∈ G := inG 744 (by decide +kernel) rfl
theorem q745 : Cond.selects RX4 yX4_ifForgotten yX4_ifForgotten ∈ G := inG 745 (by decide +kernel) rfl
theorem q746 : Cond.code yX4_ifForgotten cX4_ifForgotten 2 (some .int) ∈ G := inG 746 (by decide +kernel) rfl
theorem q747 : Cond.classLink RL 80 RX5 ∈ G := inG 747 (by decide +kernel) rfl
theorem q748 : Cond.instantiable RX5 17 ∈ G := inG 748 (by decide +kernel) rfl
theorem q749 : Cond.methodLink RL 82 yX5_init ∈ G := inG 749 (by decide +kernel) rfl
theorem q750 : Cond.instanceMethod yX5_init ∈ G := inG 750 (by decide +kernel) rfl
theorem q751 : Cond.code yX5_init cX5_init 2 none ∈ G := inG 751 (by decide +kernel) rfl
theorem q752 : Cond.methodLink RX5 1 objectInit ∈ G := inG 752 (by decide +kernel) rfl
theorem q753 : Cond.methodLink RX5 50 yX5_put ∈ G := inG 753 (by decide +kernel) rfl
theorem q755 : Cond.instanceMethod yX5_put ∈ G := inG 755 (by decide +kernel) rfl
theorem q756 : Cond.code yX5_put cX5_put 4 none ∈ G := inG 756 (by decide +kernel) rfl
theorem q757 : Cond.fieldLink RX5 7 "KernLessonsModel" "s" "[I" ∈ G := inG 757 (by decide +kernel) rfl
theorem q758 : Cond.fieldLink RX5 13 "KernLessonsModel" "saved" "[I" ∈ G := inG 758 (by decide +kernel) rfl
theorem q759 : Cond.fieldLink RX5 66 "KernLessonsModel" "savedMany" "I" ∈ G := inG 759 (by decide +kernel) rfl
theorem q760 : Cond.fieldLink RX5 16 "KernLessonsModel" "slots" "[I" ∈ G := inG 760 (by decide +kernel) rfl
theorem q761 : Cond.fieldLink RX5 19 "KernLessonsModel" "isKept" "[Z" ∈ G := inG 761 (by decide +kernel) rfl
theorem q762 : Cond.fieldLink RX5 23 "KernLessonsModel" "before" "[I" ∈ G := inG 762 (by decide +kernel) rfl
theorem q763 : Cond.fieldLink RX5 26 "KernLessonsModel" "text" "[I" ∈ G := inG 763 (by decide +kernel) rfl
theorem q764 : Cond.fieldLink RX5 142 "KernLessonsModel" "length" "I" ∈ G := inG 764 (by decide +kernel) rfl
theorem q765 : Cond.fieldLink RX5 54 "KernLessonsModel" "thrown" "I" ∈ G := inG 765 (by decide +kernel) rfl
theorem q766 : Cond.fieldLink RX5 29 "KernLessonsModel" "kerning" "[I" ∈ G := inG 766 (by decide +kernel) rfl
theorem q767 : Cond.fieldLink RX5 32 "KernLessonsModel" "own" "[I" ∈ G := inG 767 (by decide +kernel) rfl
theorem q768 : Cond.fieldLink RX5 35 "KernLessonsModel" "step" "[I" ∈ G := inG 768 (by decide +kernel) rfl
theorem q769 : Cond.fieldLink RX5 38 "KernLessonsModel" "told" "[I" ∈ G := inG 769 (by decide +kernel) rfl
theorem q770 : Cond.fieldLink RX5 41 "KernLessonsModel" "learnt" "[I" ∈ G := inG 770 (by decide +kernel) rfl
theorem q771 : Cond.fieldLink RX5 44 "KernLessonsModel" "isIdle" "[Z" ∈ G := inG 771 (by decide +kernel) rfl
theorem q772 : Cond.fieldLink RX5 47 "KernLessonsModel" "had" "[I" ∈ G := inG 772 (by decide +kernel) rfl
theorem q773 : Cond.fieldLink RX5 235 "KernLessonsModel" "hash" "J" ∈ G := inG 773 (by decide +kernel) rfl
theorem q809 : Cond.methodLink RL 89 yX5_thrown ∈ G := inG 809 (by decide +kernel) rfl
theorem q810 : Cond.instanceMethod yX5_thrown ∈ G := inG 810 (by decide +kernel) rfl
theorem q811 : Cond.selects RX5 yX5_thrown yX5_thrown ∈ G := inG 811 (by decide +kernel) rfl
theorem q812 : Cond.code yX5_thrown cX5_thrown 1 (some .int) ∈ G := inG 812 (by decide +kernel) rfl
theorem q813 : Cond.methodLink RL 88 yX5_width ∈ G := inG 813 (by decide +kernel) rfl
theorem q814 : Cond.instanceMethod yX5_width ∈ G := inG 814 (by decide +kernel) rfl
theorem q815 : Cond.selects RX5 yX5_width yX5_width ∈ G := inG 815 (by decide +kernel) rfl
theorem q816 : Cond.code yX5_width cX5_width 4 (some .int) ∈ G := inG 816 (by decide +kernel) rfl
theorem q817 : Cond.methodLink RX5 114 yX5_isLetter ∈ G := inG 817 (by decide +kernel) rfl
theorem q818 : Cond.static yX5_isLetter ∈ G := inG 818 (by decide +kernel) rfl
theorem q819 : Cond.code yX5_isLetter cX5_isLetter 1 (some .boolean) ∈ G := inG 819 (by decide +kernel) rfl
theorem q820 : Cond.methodLink RX5 58 yX5_in ∈ G := inG 820 (by decide +kernel) rfl
theorem q821 : Cond.static yX5_in ∈ G := inG 821 (by decide +kernel) rfl
theorem q822 : Cond.code yX5_in cX5_in 3 (some .boolean) ∈ G := inG 822 (by decide +kernel) rfl
theorem q823 : Cond.methodLink RX5 118 yX5_holds ∈ G := inG 823 (by decide +kernel) rfl
theorem q825 : Cond.instanceMethod yX5_holds ∈ G := inG 825 (by decide +kernel) rfl
theorem q826 : Cond.code yX5_holds cX5_holds 2 (some .boolean) ∈ G := inG 826 (by decide +kernel) rfl
theorem q827 : Cond.methodLink RX5 121 yX5_save ∈ G := inG 827 (by decide +kernel) rfl
theorem q829 : Cond.instanceMethod yX5_save ∈ G := inG 829 (by decide +kernel) rfl
theorem q830 : Cond.code yX5_save cX5_save 2 none ∈ G := inG 830 (by decide +kernel) rfl
theorem q831 : Cond.methodLink RX5 69 yX5_copy ∈ G := inG 831 (by decide +kernel) rfl
theorem q832 : Cond.static yX5_copy ∈ G := inG 832 (by decide +kernel) rfl
theorem q833 : Cond.code yX5_copy cX5_copy 5 none ∈ G := inG 833 (by decide +kernel) rfl
theorem q834 : Cond.methodLink RX5 62 yX5_of ∈ G := inG 834 (by decide +kernel) rfl
theorem q836 : Cond.instanceMethod yX5_of ∈ G := inG 836 (by decide +kernel) rfl
theorem q837 : Cond.code yX5_of cX5_of 3 (some .int) ∈ G := inG 837 (by decide +kernel) rfl
theorem q838 : Cond.methodLink RL 95 yX5_shape ∈ G := inG 838 (by decide +kernel) rfl
theorem q839 : Cond.instanceMethod yX5_shape ∈ G := inG 839 (by decide +kernel) rfl
theorem q840 : Cond.selects RX5 yX5_shape yX5_shape ∈ G := inG 840 (by decide +kernel) rfl
theorem q841 : Cond.code yX5_shape cX5_shape 5 (some .int) ∈ G := inG 841 (by decide +kernel) rfl
theorem q842 : Cond.methodLink RX5 124 yX5_isShape ∈ G := inG 842 (by decide +kernel) rfl
theorem q843 : Cond.static yX5_isShape ∈ G := inG 843 (by decide +kernel) rfl
theorem q844 : Cond.code yX5_isShape cX5_isShape 1 (some .boolean) ∈ G := inG 844 (by decide +kernel) rfl
theorem q845 : Cond.methodLink RL 98 yX5_base ∈ G := inG 845 (by decide +kernel) rfl
theorem q846 : Cond.instanceMethod yX5_base ∈ G := inG 846 (by decide +kernel) rfl
theorem q847 : Cond.selects RX5 yX5_base yX5_base ∈ G := inG 847 (by decide +kernel) rfl
theorem q848 : Cond.code yX5_base cX5_base 5 (some .int) ∈ G := inG 848 (by decide +kernel) rfl
theorem q849 : Cond.methodLink RL 101 yX5_set ∈ G := inG 849 (by decide +kernel) rfl
theorem q850 : Cond.instanceMethod yX5_set ∈ G := inG 850 (by decide +kernel) rfl
theorem q851 : Cond.selects RX5 yX5_set yX5_set ∈ G := inG 851 (by decide +kernel) rfl
theorem q852 : Cond.code yX5_set cX5_set 4 (some .int) ∈ G := inG 852 (by decide +kernel) rfl
theorem q853 : Cond.methodLink RX5 127 yX5_fits ∈ G := inG 853 (by decide +kernel) rfl
theorem q854 : Cond.static yX5_fits ∈ G := inG 854 (by decide +kernel) rfl
theorem q855 : Cond.code yX5_fits cX5_fits 2 (some .boolean) ∈ G := inG 855 (by decide +kernel) rfl
theorem q856 : Cond.methodLink RL 104 yX5_circle ∈ G := inG 856 (by decide +kernel) rfl
theorem q857 : Cond.instanceMethod yX5_circle ∈ G := inG 857 (by decide +kernel) rfl
theorem q858 : Cond.selects RX5 yX5_circle yX5_circle ∈ G := inG 858 (by decide +kernel) rfl
theorem q859 : Cond.code yX5_circle cX5_circle 4 (some .int) ∈ G := inG 859 (by decide +kernel) rfl
theorem q860 : Cond.methodLink RX5 130 yX5_isTold ∈ G := inG 860 (by decide +kernel) rfl
theorem q861 : Cond.static yX5_isTold ∈ G := inG 861 (by decide +kernel) rfl
theorem q862 : Cond.code yX5_isTold cX5_isTold 1 (some .boolean) ∈ G := inG 862 (by decide +kernel) rfl
theorem q863 : Cond.methodLink RX5 133 yX5_circles ∈ G := inG 863 (by decide +kernel) rfl
theorem q865 : Cond.instanceMethod yX5_circles ∈ G := inG 865 (by decide +kernel) rfl
theorem q866 : Cond.code yX5_circles cX5_circles 3 (some .int) ∈ G := inG 866 (by decide +kernel) rfl
theorem q867 : Cond.methodLink RX5 101 yX5_isRefused ∈ G := inG 867 (by decide +kernel) rfl
theorem q869 : Cond.instanceMethod yX5_isRefused ∈ G := inG 869 (by decide +kernel) rfl
theorem q870 : Cond.code yX5_isRefused cX5_isRefused 3 (some .boolean) ∈ G := inG 870 (by decide +kernel) rfl
theorem q871 : Cond.methodLink RX5 98 yX5_learnAll ∈ G := inG 871 (by decide +kernel) rfl
theorem q873 : Cond.instanceMethod yX5_learnAll ∈ G := inG 873 (by decide +kernel) rfl
theorem q874 : Cond.code yX5_learnAll cX5_learnAll 2 none ∈ G := inG 874 (by decide +kernel) rfl
theorem q875 : Cond.methodLink RX5 94 yX5_learn ∈ G := inG 875 (by decide +kernel) rfl
theorem q877 : Cond.instanceMethod yX5_learn ∈ G := inG 877 (by decide +kernel) rfl
theorem q878 : Cond.code yX5_learn cX5_learn 4 none ∈ G := inG 878 (by decide +kernel) rfl
theorem q879 : Cond.methodLink RX5 80 yX5_ofLesson ∈ G := inG 879 (by decide +kernel) rfl
theorem q881 : Cond.instanceMethod yX5_ofLesson ∈ G := inG 881 (by decide +kernel) rfl
theorem q882 : Cond.code yX5_ofLesson cX5_ofLesson 3 (some .int) ∈ G := inG 882 (by decide +kernel) rfl
theorem q883 : Cond.methodLink RX5 83 yX5_isAtEnd ∈ G := inG 883 (by decide +kernel) rfl
theorem q885 : Cond.instanceMethod yX5_isAtEnd ∈ G := inG 885 (by decide +kernel) rfl
theorem q886 : Cond.code yX5_isAtEnd cX5_isAtEnd 3 (some .boolean) ∈ G := inG 886 (by decide +kernel) rfl
theorem q887 : Cond.methodLink RX5 77 yX5_kerningOf ∈ G := inG 887 (by decide +kernel) rfl
theorem q889 : Cond.instanceMethod yX5_kerningOf ∈ G := inG 889 (by decide +kernel) rfl
theorem q890 : Cond.code yX5_kerningOf cX5_kerningOf 2 (some .int) ∈ G := inG 890 (by decide +kernel) rfl
theorem q891 : Cond.methodLink RX5 73 yX5_meeting ∈ G := inG 891 (by decide +kernel) rfl
theorem q893 : Cond.instanceMethod yX5_meeting ∈ G := inG 893 (by decide +kernel) rfl
theorem q894 : Cond.code yX5_meeting cX5_meeting 2 (some .int) ∈ G := inG 894 (by decide +kernel) rfl
theorem q895 : Cond.methodLink RX5 87 yX5_within ∈ G := inG 895 (by decide +kernel) rfl
theorem q896 : Cond.static yX5_within ∈ G := inG 896 (by decide +kernel) rfl
theorem q897 : Cond.code yX5_within cX5_within 1 (some .int) ∈ G := inG 897 (by decide +kernel) rfl
theorem q898 : Cond.methodLink RX5 90 yX5_learnShapes ∈ G := inG 898 (by decide +kernel) rfl
theorem q900 : Cond.instanceMethod yX5_learnShapes ∈ G := inG 900 (by decide +kernel) rfl
theorem q901 : Cond.code yX5_learnShapes cX5_learnShapes 5 none ∈ G := inG 901 (by decide +kernel) rfl
theorem q902 : Cond.methodLink RX5 104 yX5_add ∈ G := inG 902 (by decide +kernel) rfl
theorem q904 : Cond.instanceMethod yX5_add ∈ G := inG 904 (by decide +kernel) rfl
theorem q905 : Cond.code yX5_add cX5_add 4 none ∈ G := inG 905 (by decide +kernel) rfl
theorem q906 : Cond.methodLink RL 108 yX5_forget ∈ G := inG 906 (by decide +kernel) rfl
theorem q907 : Cond.instanceMethod yX5_forget ∈ G := inG 907 (by decide +kernel) rfl
theorem q908 : Cond.selects RX5 yX5_forget yX5_forget ∈ G := inG 908 (by decide +kernel) rfl
theorem q909 : Cond.code yX5_forget cX5_forget 2 (some .int) ∈ G := inG 909 (by decide +kernel) rfl
theorem q910 : Cond.methodLink RX5 136 yX5_isLesson ∈ G := inG 910 (by decide +kernel) rfl
theorem q912 : Cond.instanceMethod yX5_isLesson ∈ G := inG 912 (by decide +kernel) rfl
theorem q913 : Cond.code yX5_isLesson cX5_isLesson 2 (some .boolean) ∈ G := inG 913 (by decide +kernel) rfl
theorem q914 : Cond.methodLink RX5 139 yX5_drops ∈ G := inG 914 (by decide +kernel) rfl
theorem q916 : Cond.instanceMethod yX5_drops ∈ G := inG 916 (by decide +kernel) rfl
theorem q917 : Cond.code yX5_drops cX5_drops 3 (some .int) ∈ G := inG 917 (by decide +kernel) rfl
theorem q918 : Cond.methodLink RX5 107 yX5_noteKernings ∈ G := inG 918 (by decide +kernel) rfl
theorem q920 : Cond.instanceMethod yX5_noteKernings ∈ G := inG 920 (by decide +kernel) rfl
theorem q921 : Cond.code yX5_noteKernings cX5_noteKernings 2 none ∈ G := inG 921 (by decide +kernel) rfl
theorem q922 : Cond.methodLink RX5 110 yX5_otherKernings ∈ G := inG 922 (by decide +kernel) rfl
theorem q924 : Cond.instanceMethod yX5_otherKernings ∈ G := inG 924 (by decide +kernel) rfl
theorem q925 : Cond.code yX5_otherKernings cX5_otherKernings 3 (some .int) ∈ G := inG 925 (by decide +kernel) rfl
theorem q926 : Cond.methodLink RL 111 yX5_append ∈ G := inG 926 (by decide +kernel) rfl
theorem q927 : Cond.instanceMethod yX5_append ∈ G := inG 927 (by decide +kernel) rfl
theorem q928 : Cond.selects RX5 yX5_append yX5_append ∈ G := inG 928 (by decide +kernel) rfl
theorem q929 : Cond.code yX5_append cX5_append 2 (some .int) ∈ G := inG 929 (by decide +kernel) rfl
theorem q930 : Cond.methodLink RL 115 yX5_clearBuffer ∈ G := inG 930 (by decide +kernel) rfl
theorem q931 : Cond.instanceMethod yX5_clearBuffer ∈ G := inG 931 (by decide +kernel) rfl
theorem q932 : Cond.selects RX5 yX5_clearBuffer yX5_clearBuffer ∈ G := inG 932 (by decide +kernel) rfl
theorem q933 : Cond.code yX5_clearBuffer cX5_clearBuffer 2 (some .int) ∈ G := inG 933 (by decide +kernel) rfl
theorem q934 : Cond.methodLink RL 119 yX5_firstError ∈ G := inG 934 (by decide +kernel) rfl
theorem q935 : Cond.instanceMethod yX5_firstError ∈ G := inG 935 (by decide +kernel) rfl
theorem q936 : Cond.selects RX5 yX5_firstError yX5_firstError ∈ G := inG 936 (by decide +kernel) rfl
theorem q937 : Cond.code yX5_firstError cX5_firstError 1 (some .int) ∈ G := inG 937 (by decide +kernel) rfl
theorem q938 : Cond.methodLink RX5 148 yX5_errorPlace ∈ G := inG 938 (by decide +kernel) rfl
theorem q940 : Cond.instanceMethod yX5_errorPlace ∈ G := inG 940 (by decide +kernel) rfl
theorem q941 : Cond.code yX5_errorPlace cX5_errorPlace 2 (some .int) ∈ G := inG 941 (by decide +kernel) rfl
theorem q942 : Cond.methodLink RX5 145 yX5_isWritten ∈ G := inG 942 (by decide +kernel) rfl
theorem q944 : Cond.instanceMethod yX5_isWritten ∈ G := inG 944 (by decide +kernel) rfl
theorem q945 : Cond.code yX5_isWritten cX5_isWritten 2 (some .boolean) ∈ G := inG 945 (by decide +kernel) rfl
theorem q946 : Cond.methodLink RL 122 yX5_circleAt ∈ G := inG 946 (by decide +kernel) rfl
theorem q947 : Cond.instanceMethod yX5_circleAt ∈ G := inG 947 (by decide +kernel) rfl
theorem q948 : Cond.selects RX5 yX5_circleAt yX5_circleAt ∈ G := inG 948 (by decide +kernel) rfl
theorem q949 : Cond.code yX5_circleAt cX5_circleAt 4 (some .int) ∈ G := inG 949 (by decide +kernel) rfl
theorem q950 : Cond.methodLink RX5 151 yX5_isText ∈ G := inG 950 (by decide +kernel) rfl
theorem q952 : Cond.instanceMethod yX5_isText ∈ G := inG 952 (by decide +kernel) rfl
theorem q953 : Cond.code yX5_isText cX5_isText 1 (some .boolean) ∈ G := inG 953 (by decide +kernel) rfl
theorem q954 : Cond.methodLink RX5 155 yX5_pairAt ∈ G := inG 954 (by decide +kernel) rfl
theorem q956 : Cond.instanceMethod yX5_pairAt ∈ G := inG 956 (by decide +kernel) rfl
theorem q957 : Cond.code yX5_pairAt cX5_pairAt 2 (some .int) ∈ G := inG 957 (by decide +kernel) rfl
theorem q958 : Cond.methodLink RL 125 yX5_keep ∈ G := inG 958 (by decide +kernel) rfl
theorem q959 : Cond.instanceMethod yX5_keep ∈ G := inG 959 (by decide +kernel) rfl
theorem q960 : Cond.selects RX5 yX5_keep yX5_keep ∈ G := inG 960 (by decide +kernel) rfl
theorem q961 : Cond.code yX5_keep cX5_keep 2 (some .int) ∈ G := inG 961 (by decide +kernel) rfl
theorem q962 : Cond.methodLink RX5 158 yX5_isSlot ∈ G := inG 962 (by decide +kernel) rfl
theorem q963 : Cond.static yX5_isSlot ∈ G := inG 963 (by decide +kernel) rfl
theorem q964 : Cond.code yX5_isSlot cX5_isSlot 1 (some .boolean) ∈ G := inG 964 (by decide +kernel) rfl
theorem q965 : Cond.methodLink RL 128 yX5_goBack ∈ G := inG 965 (by decide +kernel) rfl
theorem q966 : Cond.instanceMethod yX5_goBack ∈ G := inG 966 (by decide +kernel) rfl
theorem q967 : Cond.selects RX5 yX5_goBack yX5_goBack ∈ G := inG 967 (by decide +kernel) rfl
theorem q968 : Cond.code yX5_goBack cX5_goBack 2 (some .int) ∈ G := inG 968 (by decide +kernel) rfl
theorem q969 : Cond.methodLink RL 132 yX5_undo ∈ G := inG 969 (by decide +kernel) rfl
theorem q970 : Cond.instanceMethod yX5_undo ∈ G := inG 970 (by decide +kernel) rfl
theorem q971 : Cond.selects RX5 yX5_undo yX5_undo ∈ G := inG 971 (by decide +kernel) rfl
theorem q972 : Cond.code yX5_undo cX5_undo 1 (some .int) ∈ G := inG 972 (by decide +kernel) rfl
theorem q973 : Cond.methodLink RL 135 yX5_letterOf ∈ G := inG 973 (by decide +kernel) rfl
theorem q974 : Cond.instanceMethod yX5_letterOf ∈ G := inG 974 (by decide +kernel) rfl
theorem q975 : Cond.selects RX5 yX5_letterOf yX5_letterOf ∈ G := inG 975 (by decide +kernel) rfl
theorem q976 : Cond.code yX5_letterOf cX5_letterOf 3 (some .int) ∈ G := inG 976 (by decide +kernel) rfl
theorem q977 : Cond.methodLink RX5 164 yX5_letterTold ∈ G := inG 977 (by decide +kernel) rfl
theorem q979 : Cond.instanceMethod yX5_letterTold ∈ G := inG 979 (by decide +kernel) rfl
theorem q980 : Cond.code yX5_letterTold cX5_letterTold 3 (some .int) ∈ G := inG 980 (by decide +kernel) rfl
theorem q981 : Cond.methodLink RX5 161 yX5_lessonsWith ∈ G := inG 981 (by decide +kernel) rfl
theorem q983 : Cond.instanceMethod yX5_lessonsWith ∈ G := inG 983 (by decide +kernel) rfl
theorem q984 : Cond.code yX5_lessonsWith cX5_lessonsWith 4 (some .int) ∈ G := inG 984 (by decide +kernel) rfl
theorem q985 : Cond.methodLink RL 138 yX5_pairOf ∈ G := inG 985 (by decide +kernel) rfl
theorem q986 : Cond.instanceMethod yX5_pairOf ∈ G := inG 986 (by decide +kernel) rfl
theorem q987 : Cond.selects RX5 yX5_pairOf yX5_pairOf ∈ G := inG 987 (by decide +kernel) rfl
theorem q988 : Cond.code yX5_pairOf cX5_pairOf 4 (some .int) ∈ G := inG 988 (by decide +kernel) rfl
theorem q989 : Cond.methodLink RX5 167 yX5_pairTold ∈ G := inG 989 (by decide +kernel) rfl
theorem q991 : Cond.instanceMethod yX5_pairTold ∈ G := inG 991 (by decide +kernel) rfl
theorem q992 : Cond.code yX5_pairTold cX5_pairTold 3 (some .int) ∈ G := inG 992 (by decide +kernel) rfl
theorem q993 : Cond.methodLink RL 141 yX5_shapesOf ∈ G := inG 993 (by decide +kernel) rfl
theorem q994 : Cond.instanceMethod yX5_shapesOf ∈ G := inG 994 (by decide +kernel) rfl
theorem q995 : Cond.selects RX5 yX5_shapesOf yX5_shapesOf ∈ G := inG 995 (by decide +kernel) rfl
theorem q996 : Cond.code yX5_shapesOf cX5_shapesOf 4 (some .int) ∈ G := inG 996 (by decide +kernel) rfl
theorem q997 : Cond.methodLink RX5 174 yX5_shapesTold ∈ G := inG 997 (by decide +kernel) rfl
theorem q999 : Cond.instanceMethod yX5_shapesTold ∈ G := inG 999 (by decide +kernel) rfl
theorem q1000 : Cond.code yX5_shapesTold cX5_shapesTold 3 (some .int) ∈ G := inG 1000 (by decide +kernel) rfl
theorem q1001 : Cond.methodLink RX5 170 yX5_pairsAt ∈ G := inG 1001 (by decide +kernel) rfl
theorem q1003 : Cond.instanceMethod yX5_pairsAt ∈ G := inG 1003 (by decide +kernel) rfl
theorem q1004 : Cond.code yX5_pairsAt cX5_pairsAt 5 (some .int) ∈ G := inG 1004 (by decide +kernel) rfl
theorem q1005 : Cond.methodLink RL 144 yX5_lessonOf ∈ G := inG 1005 (by decide +kernel) rfl
theorem q1006 : Cond.instanceMethod yX5_lessonOf ∈ G := inG 1006 (by decide +kernel) rfl
theorem q1007 : Cond.selects RX5 yX5_lessonOf yX5_lessonOf ∈ G := inG 1007 (by decide +kernel) rfl
theorem q1008 : Cond.code yX5_lessonOf cX5_lessonOf 3 (some .int) ∈ G := inG 1008 (by decide +kernel) rfl
theorem q1009 : Cond.methodLink RX5 177 yX5_lessonTold ∈ G := inG 1009 (by decide +kernel) rfl
theorem q1011 : Cond.instanceMethod yX5_lessonTold ∈ G := inG 1011 (by decide +kernel) rfl
theorem q1012 : Cond.code yX5_lessonTold cX5_lessonTold 3 (some .int) ∈ G := inG 1012 (by decide +kernel) rfl
theorem q1013 : Cond.methodLink RL 147 yX5_count ∈ G := inG 1013 (by decide +kernel) rfl
theorem q1014 : Cond.instanceMethod yX5_count ∈ G := inG 1014 (by decide +kernel) rfl
theorem q1015 : Cond.selects RX5 yX5_count yX5_count ∈ G := inG 1015 (by decide +kernel) rfl
theorem q1016 : Cond.code yX5_count cX5_count 2 (some .int) ∈ G := inG 1016 (by decide +kernel) rfl
theorem q1017 : Cond.methodLink RX5 189 yX5_countTold ∈ G := inG 1017 (by decide +kernel) rfl
theorem q1019 : Cond.instanceMethod yX5_countTold ∈ G := inG 1019 (by decide +kernel) rfl
theorem q1020 : Cond.code yX5_countTold cX5_countTold 2 (some .int) ∈ G := inG 1020 (by decide +kernel) rfl
theorem q1021 : Cond.methodLink RX5 180 yX5_idleLessons ∈ G := inG 1021 (by decide +kernel) rfl
theorem q1023 : Cond.instanceMethod yX5_idleLessons ∈ G := inG 1023 (by decide +kernel) rfl
theorem q1024 : Cond.code yX5_idleLessons cX5_idleLessons 3 (some .int) ∈ G := inG 1024 (by decide +kernel) rfl
theorem q1025 : Cond.methodLink RX5 183 yX5_learntPairs ∈ G := inG 1025 (by decide +kernel) rfl
theorem q1027 : Cond.instanceMethod yX5_learntPairs ∈ G := inG 1027 (by decide +kernel) rfl
theorem q1028 : Cond.code yX5_learntPairs cX5_learntPairs 3 (some .int) ∈ G := inG 1028 (by decide +kernel) rfl
theorem q1029 : Cond.methodLink RX5 186 yX5_otherShapes ∈ G := inG 1029 (by decide +kernel) rfl
theorem q1031 : Cond.instanceMethod yX5_otherShapes ∈ G := inG 1031 (by decide +kernel) rfl
theorem q1032 : Cond.code yX5_otherShapes cX5_otherShapes 3 (some .int) ∈ G := inG 1032 (by decide +kernel) rfl
theorem q1033 : Cond.methodLink RL 150 yX5_setting ∈ G := inG 1033 (by decide +kernel) rfl
theorem q1034 : Cond.instanceMethod yX5_setting ∈ G := inG 1034 (by decide +kernel) rfl
theorem q1035 : Cond.selects RX5 yX5_setting yX5_setting ∈ G := inG 1035 (by decide +kernel) rfl
theorem q1036 : Cond.code yX5_setting cX5_setting 2 (some .int) ∈ G := inG 1036 (by decide +kernel) rfl
theorem q1037 : Cond.methodLink RL 153 yX5_text ∈ G := inG 1037 (by decide +kernel) rfl
theorem q1038 : Cond.instanceMethod yX5_text ∈ G := inG 1038 (by decide +kernel) rfl
theorem q1039 : Cond.selects RX5 yX5_text yX5_text ∈ G := inG 1039 (by decide +kernel) rfl
theorem q1040 : Cond.code yX5_text cX5_text 2 (some .int) ∈ G := inG 1040 (by decide +kernel) rfl
theorem q1041 : Cond.methodLink RX5 210 yX5_textTold ∈ G := inG 1041 (by decide +kernel) rfl
theorem q1043 : Cond.instanceMethod yX5_textTold ∈ G := inG 1043 (by decide +kernel) rfl
theorem q1044 : Cond.code yX5_textTold cX5_textTold 2 (some .int) ∈ G := inG 1044 (by decide +kernel) rfl
theorem q1045 : Cond.methodLink RX5 198 yX5_widthOfText ∈ G := inG 1045 (by decide +kernel) rfl
theorem q1047 : Cond.instanceMethod yX5_widthOfText ∈ G := inG 1047 (by decide +kernel) rfl
theorem q1048 : Cond.code yX5_widthOfText cX5_widthOfText 3 (some .int) ∈ G := inG 1048 (by decide +kernel) rfl
theorem q1049 : Cond.methodLink RX5 192 yX5_widthOfWord ∈ G := inG 1049 (by decide +kernel) rfl
theorem q1051 : Cond.instanceMethod yX5_widthOfWord ∈ G := inG 1051 (by decide +kernel) rfl
theorem q1052 : Cond.code yX5_widthOfWord cX5_widthOfWord 4 (some .int) ∈ G := inG 1052 (by decide +kernel) rfl
theorem q1053 : Cond.methodLink RX5 195 yX5_endOf ∈ G := inG 1053 (by decide +kernel) rfl
theorem q1055 : Cond.instanceMethod yX5_endOf ∈ G := inG 1055 (by decide +kernel) rfl
theorem q1056 : Cond.code yX5_endOf cX5_endOf 3 (some .int) ∈ G := inG 1056 (by decide +kernel) rfl
theorem q1057 : Cond.methodLink RX5 201 yX5_words ∈ G := inG 1057 (by decide +kernel) rfl
theorem q1059 : Cond.instanceMethod yX5_words ∈ G := inG 1059 (by decide +kernel) rfl
theorem q1060 : Cond.code yX5_words cX5_words 3 (some .int) ∈ G := inG 1060 (by decide +kernel) rfl
theorem q1061 : Cond.methodLink RX5 204 yX5_widestWord ∈ G := inG 1061 (by decide +kernel) rfl
theorem q1063 : Cond.instanceMethod yX5_widestWord ∈ G := inG 1063 (by decide +kernel) rfl
theorem q1064 : Cond.code yX5_widestWord cX5_widestWord 3 (some .int) ∈ G := inG 1064 (by decide +kernel) rfl
theorem q1065 : Cond.methodLink RX5 207 yX5_fewestLines ∈ G := inG 1065 (by decide +kernel) rfl
theorem q1067 : Cond.instanceMethod yX5_fewestLines ∈ G := inG 1067 (by decide +kernel) rfl
theorem q1068 : Cond.code yX5_fewestLines cX5_fewestLines 6 (some .int) ∈ G := inG 1068 (by decide +kernel) rfl
theorem q1069 : Cond.methodLink RL 156 yX5_ifCircled ∈ G := inG 1069 (by decide +kernel) rfl
theorem q1070 : Cond.instanceMethod yX5_ifCircled ∈ G := inG 1070 (by decide +kernel) rfl
theorem q1071 : Cond.selects RX5 yX5_ifCircled yX5_ifCircled ∈ G := inG 1071 (by decide +kernel) rfl
theorem q1072 : Cond.code yX5_ifCircled cX5_ifCircled 5 (some .int) ∈ G := inG 1072 (by decide +kernel) rfl
theorem q1073 : Cond.methodLink RL 159 yX5_ifForgotten ∈ G := inG 1073 (by decide +kernel) rfl
theorem q1074 : Cond.instanceMethod yX5_ifForgotten ∈ G := inG 1074 (by decide +kernel) rfl
theorem q1075 : Cond.selects RX5 yX5_ifForgotten yX5_ifForgotten ∈ G := inG 1075 (by decide +kernel) rfl
theorem q1076 : Cond.code yX5_ifForgotten cX5_ifForgotten 2 (some .int) ∈ G := inG 1076 (by decide +kernel) rfl
theorem q1077 : Cond.methodLink RX5 213 yX5_without ∈ G := inG 1077 (by decide +kernel) rfl
theorem q1079 : Cond.instanceMethod yX5_without ∈ G := inG 1079 (by decide +kernel) rfl
theorem q1080 : Cond.code yX5_without cX5_without 3 (some .int) ∈ G := inG 1080 (by decide +kernel) rfl
theorem q1081 : Cond.methodLink RL 163 yX5_mainLesson ∈ G := inG 1081 (by decide +kernel) rfl
theorem q1082 : Cond.instanceMethod yX5_mainLesson ∈ G := inG 1082 (by decide +kernel) rfl
theorem q1083 : Cond.selects RX5 yX5_mainLesson yX5_mainLesson ∈ G := inG 1083 (by decide +kernel) rfl
theorem q1084 : Cond.code yX5_mainLesson cX5_mainLesson 1 (some .int) ∈ G := inG 1084 (by decide +kernel) rfl
theorem q1085 : Cond.methodLink RX5 216 yX5_mainTold ∈ G := inG 1085 (by decide +kernel) rfl
theorem q1087 : Cond.instanceMethod yX5_mainTold ∈ G := inG 1087 (by decide +kernel) rfl
theorem q1088 : Cond.code yX5_mainTold cX5_mainTold 5 (some .int) ∈ G := inG 1088 (by decide +kernel) rfl
theorem q1089 : Cond.methodLink RL 168 yX5_tightShare ∈ G := inG 1089 (by decide +kernel) rfl
theorem q1090 : Cond.instanceMethod yX5_tightShare ∈ G := inG 1090 (by decide +kernel) rfl
theorem q1091 : Cond.selects RX5 yX5_tightShare yX5_tightShare ∈ G := inG 1091 (by decide +kernel) rfl
theorem q1092 : Cond.code yX5_tightShare cX5_tightShare 1 (some .double) ∈ G := inG 1092 (by decide +kernel) rfl
theorem q1093 : Cond.methodLink RX5 221 yX5_shareTold ∈ G := inG 1093 (by decide +kernel) rfl
theorem q1095 : Cond.instanceMethod yX5_shareTold ∈ G := inG 1095 (by decide +kernel) rfl
theorem q1096 : Cond.code yX5_shareTold cX5_shareTold 3 (some .double) ∈ G := inG 1096 (by decide +kernel) rfl
theorem q1097 : Cond.constantDouble RX5 219 (4636737291354636288) ∈ G := inG 1097 (by decide +kernel) rfl
theorem q1098 : Cond.methodLink RL 173 yX5_digest ∈ G := inG 1098 (by decide +kernel) rfl
theorem q1099 : Cond.instanceMethod yX5_digest ∈ G := inG 1099 (by decide +kernel) rfl
theorem q1100 : Cond.selects RX5 yX5_digest yX5_digest ∈ G := inG 1100 (by decide +kernel) rfl
theorem q1101 : Cond.code yX5_digest cX5_digest 2 (some .long) ∈ G := inG 1101 (by decide +kernel) rfl
theorem q1102 : Cond.constantLong RX5 243 (3529) ∈ G := inG 1102 (by decide +kernel) rfl
theorem q1103 : Cond.methodLink RX5 239 yX5_mix ∈ G := inG 1103 (by decide +kernel) rfl
theorem q1105 : Cond.instanceMethod yX5_mix ∈ G := inG 1105 (by decide +kernel) rfl
theorem q1106 : Cond.code yX5_mix cX5_mix 3 none ∈ G := inG 1106 (by decide +kernel) rfl
theorem q1107 : Cond.constantLong RX5 233 (31) ∈ G := inG 1107 (by decide +kernel) rfl
theorem q1108 : Cond.methodLink RX5 245 yX5_mixPairs ∈ G := inG 1108 (by decide +kernel) rfl
theorem q1110 : Cond.instanceMethod yX5_mixPairs ∈ G := inG 1110 (by decide +kernel) rfl
theorem q1111 : Cond.code yX5_mixPairs cX5_mixPairs 2 none ∈ G := inG 1111 (by decide +kernel) rfl
theorem q1112 : Cond.methodLink RX5 248 yX5_mixLessons ∈ G := inG 1112 (by decide +kernel) rfl
theorem q1114 : Cond.instanceMethod yX5_mixLessons ∈ G := inG 1114 (by decide +kernel) rfl
theorem q1115 : Cond.code yX5_mixLessons cX5_mixLessons 3 none ∈ G := inG 1115 (by decide +kernel) rfl
theorem q1116 : Cond.methodLink RX5 251 yX5_bitsOf ∈ G := inG 1116 (by decide +kernel) rfl
theorem q1117 : Cond.static yX5_bitsOf ∈ G := inG 1117 (by decide +kernel) rfl
theorem q1118 : Cond.code yX5_bitsOf cX5_bitsOf 6 (some .long) ∈ G := inG 1118 (by decide +kernel) rfl
theorem q1119 : Cond.constantLong RX5 225 (1023) ∈ G := inG 1119 (by decide +kernel) rfl
theorem q1120 : Cond.constantDouble RX5 227 (4611686018427387904) ∈ G := inG 1120 (by decide +kernel) rfl
theorem q1121 : Cond.constantLong RX5 229 (4503599627370496) ∈ G := inG 1121 (by decide +kernel) rfl
theorem q1122 : Cond.constantDouble RX5 231 (4841369599423283200) ∈ G := inG 1122 (by decide +kernel) rfl
theorem q1123 : Cond.arrayClass .long ∈ G := inG 1123 (by decide +kernel) rfl
theorem iG0 : ∀ w ∈ u_ws RX0 TX0 2, w ∈ G := inG_ws (by decide +kernel)
theorem iG1 : ∀ w ∈ u_ws RX1 TX1 5, w ∈ G := inG_ws (by decide +kernel)
theorem iG2 : ∀ w ∈ u_ws RX2 TX2 12, w ∈ G := inG_ws (by decide +kernel)
theorem iG3 : ∀ w ∈ u_ws RX3 TX3 8, w ∈ G := inG_ws (by decide +kernel)
theorem iG4 : ∀ w ∈ u_ws RX4 TX4 9, w ∈ G := inG_ws (by decide +kernel)
theorem iG5 : ∀ w ∈ u_ws RX5 TX5 17, w ∈ G := inG_ws (by decide +kernel)
end
section
theorem dX0_init_0 : decode cX0_init 0 = .ok (.aload_n 0, 1) := by decide +kernel
theorem dX0_init_1 : decode cX0_init 1 = .ok (.invokespecial 3, 3) := by decide +kernel
theorem dX0_init_4 : decode cX0_init 4 = .ok (.aload_n 0, 1) := by decide +kernel
theorem dX0_init_5 : decode cX0_init 5 = .ok (.bipush 60, 2) := by decide +kernel
theorem dX0_init_7 : decode cX0_init 7 = .ok (.newarray .int, 2) := by decide +kernel
theorem dX0_init_9 : decode cX0_init 9 = .ok (.putfield 9, 3) := by decide +kernel
theorem dX0_init_12 : decode cX0_init 12 = .ok (.aload_n 0, 1) := by decide +kernel
theorem dX0_init_13 : decode cX0_init 13 = .ok (.iconst 0, 1) := by decide +kernel
theorem dX0_init_14 : decode cX0_init 14 = .ok (.putfield 15, 3) := by decide +kernel
theorem dX0_init_17 : decode cX0_init 17 = .ok (.return_, 1) := by decide +kernel
theorem dX0_hasLetterAt_0 : decode cX0_hasLetterAt 0 = .ok (.iload_n 1, 1) := by decide +kernel
theorem dX0_hasLetterAt_1 : decode cX0_hasLetterAt 1 = .ok (.ifCond .lt 37, 3) := by decide +kernel
theorem dX0_hasLetterAt_4 : decode cX0_hasLetterAt 4 = .ok (.iload_n 1, 1) := by decide +kernel
theorem dX0_hasLetterAt_5 : decode cX0_hasLetterAt 5 = .ok (.aload_n 0, 1) := by decide +kernel
theorem dX0_hasLetterAt_6 : decode cX0_hasLetterAt 6 = .ok (.getfield 15, 3) := by decide +kernel
theorem dX0_hasLetterAt_9 : decode cX0_hasLetterAt 9 = .ok (.if_icmp .ge 29, 3) := by decide +kernel
theorem dX0_hasLetterAt_12 : decode cX0_hasLetterAt 12 = .ok (.aload_n 0, 1) := by decide +kernel
theorem dX0_hasLetterAt_13 : decode cX0_hasLetterAt 13 = .ok (.getfield 9, 3) := by decide +kernel
theorem dX0_hasLetterAt_16 : decode cX0_hasLetterAt 16 = .ok (.iload_n 1, 1) := by decide +kernel
theorem dX0_hasLetterAt_17 : decode cX0_hasLetterAt 17 = .ok (.iaload, 1) := by decide +kernel
theorem dX0_hasLetterAt_18 : decode cX0_hasLetterAt 18 = .ok (.bipush 97, 2) := by decide +kernel
theorem dX0_hasLetterAt_20 : decode cX0_hasLetterAt 20 = .ok (.if_icmp .lt 18, 3) := by decide +kernel
theorem dX0_hasLetterAt_23 : decode cX0_hasLetterAt 23 = .ok (.aload_n 0, 1) := by decide +kernel
theorem dX0_hasLetterAt_24 : decode cX0_hasLetterAt 24 = .ok (.getfield 9, 3) := by decide +kernel
theorem dX0_hasLetterAt_27 : decode cX0_hasLetterAt 27 = .ok (.iload_n 1, 1) := by decide +kernel
theorem dX0_hasLetterAt_28 : decode cX0_hasLetterAt 28 = .ok (.iaload, 1) := by decide +kernel
theorem dX0_hasLetterAt_29 : decode cX0_hasLetterAt 29 = .ok (.bipush 107, 2) := by decide +kernel
theorem dX0_hasLetterAt_31 : decode cX0_hasLetterAt 31 = .ok (.if_icmp .ge 7, 3) := by decide +kernel
theorem dX0_hasLetterAt_34 : decode cX0_hasLetterAt 34 = .ok (.iconst 1, 1) := by decide +kernel
theorem dX0_hasLetterAt_35 : decode cX0_hasLetterAt 35 = .ok (.goto 4, 3) := by decide +kernel
theorem dX0_hasLetterAt_38 : decode cX0_hasLetterAt 38 = .ok (.iconst 0, 1) := by decide +kernel
theorem dX0_hasLetterAt_39 : decode cX0_hasLetterAt 39 = .ok (.ireturn, 1) := by decide +kernel
theorem dX0_hasPairAt_0 : decode cX0_hasPairAt 0 = .ok (.aload_n 0, 1) := by decide +kernel
theorem dX0_hasPairAt_1 : decode cX0_hasPairAt 1 = .ok (.iload_n 1, 1) := by decide +kernel
theorem dX0_hasPairAt_2 : decode cX0_hasPairAt 2 = .ok (.invokevirtual 19, 3) := by decide +kernel
theorem dX0_hasPairAt_5 : decode cX0_hasPairAt 5 = .ok (.ifCond .eq 17, 3) := by decide +kernel
theorem dX0_hasPairAt_8 : decode cX0_hasPairAt 8 = .ok (.aload_n 0, 1) := by decide +kernel
theorem dX0_hasPairAt_9 : decode cX0_hasPairAt 9 = .ok (.iload_n 1, 1) := by decide +kernel
theorem dX0_hasPairAt_10 : decode cX0_hasPairAt 10 = .ok (.iconst 1, 1) := by decide +kernel
theorem dX0_hasPairAt_11 : decode cX0_hasPairAt 11 = .ok (.iadd, 1) := by decide +kernel
theorem dX0_hasPairAt_12 : decode cX0_hasPairAt 12 = .ok (.invokevirtual 19, 3) := by decide +kernel
theorem dX0_hasPairAt_15 : decode cX0_hasPairAt 15 = .ok (.ifCond .eq 7, 3) := by decide +kernel
theorem dX0_hasPairAt_18 : decode cX0_hasPairAt 18 = .ok (.iconst 1, 1) := by decide +kernel
theorem dX0_hasPairAt_19 : decode cX0_hasPairAt 19 = .ok (.goto 4, 3) := by decide +kernel
theorem dX0_hasPairAt_22 : decode cX0_hasPairAt 22 = .ok (.iconst 0, 1) := by decide +kernel
theorem dX0_hasPairAt_23 : decode cX0_hasPairAt 23 = .ok (.ireturn, 1) := by decide +kernel
theorem dX0_letterAt_0 : decode cX0_letterAt 0 = .ok (.aload_n 0, 1) := by decide +kernel
theorem dX0_letterAt_1 : decode cX0_letterAt 1 = .ok (.getfield 9, 3) := by decide +kernel
theorem dX0_letterAt_4 : decode cX0_letterAt 4 = .ok (.iload_n 1, 1) := by decide +kernel
theorem dX0_letterAt_5 : decode cX0_letterAt 5 = .ok (.iaload, 1) := by decide +kernel
theorem dX0_letterAt_6 : decode cX0_letterAt 6 = .ok (.bipush 97, 2) := by decide +kernel
theorem dX0_letterAt_8 : decode cX0_letterAt 8 = .ok (.isub, 1) := by decide +kernel
theorem dX0_letterAt_9 : decode cX0_letterAt 9 = .ok (.ireturn, 1) := by decide +kernel
theorem dX0_pairAt_0 : decode cX0_pairAt 0 = .ok (.bipush 10, 2) := by decide +kernel
theorem dX0_pairAt_2 : decode cX0_pairAt 2 = .ok (.aload_n 0, 1) := by decide +kernel
theorem dX0_pairAt_3 : decode cX0_pairAt 3 = .ok (.iload_n 1, 1) := by decide +kernel
theorem dX0_pairAt_4 : decode cX0_pairAt 4 = .ok (.invokevirtual 23, 3) := by decide +kernel
theorem dX0_pairAt_7 : decode cX0_pairAt 7 = .ok (.imul, 1) := by decide +kernel
theorem dX0_pairAt_8 : decode cX0_pairAt 8 = .ok (.aload_n 0, 1) := by decide +kernel
theorem dX0_pairAt_9 : decode cX0_pairAt 9 = .ok (.iload_n 1, 1) := by decide +kernel
theorem dX0_pairAt_10 : decode cX0_pairAt 10 = .ok (.iconst 1, 1) := by decide +kernel
theorem dX0_pairAt_11 : decode cX0_pairAt 11 = .ok (.iadd, 1) := by decide +kernel
theorem dX0_pairAt_12 : decode cX0_pairAt 12 = .ok (.invokevirtual 23, 3) := by decide +kernel
theorem dX0_pairAt_15 : decode cX0_pairAt 15 = .ok (.iadd, 1) := by decide +kernel
theorem dX0_pairAt_16 : decode cX0_pairAt 16 = .ok (.ireturn, 1) := by decide +kernel
theorem dX0_firstWrongPlace_0 : decode cX0_firstWrongPlace 0 = .ok (.iconst 0, 1) := by decide +kernel
theorem dX0_firstWrongPlace_1 : decode cX0_firstWrongPlace 1 = .ok (.istore_n 1, 1) := by decide +kernel
theorem dX0_firstWrongPlace_2 : decode cX0_firstWrongPlace 2 = .ok (.iload_n 1, 1) := by decide +kernel
theorem dX0_firstWrongPlace_3 : decode cX0_firstWrongPlace 3 = .ok (.aload_n 0, 1) := by decide +kernel
theorem dX0_firstWrongPlace_4 : decode cX0_firstWrongPlace 4 = .ok (.getfield 15, 3) := by decide +kernel
theorem dX0_firstWrongPlace_7 : decode cX0_firstWrongPlace 7 = .ok (.if_icmp .ge 50, 3) := by decide +kernel
theorem dX0_firstWrongPlace_10 : decode cX0_firstWrongPlace 10 = .ok (.aload_n 0, 1) := by decide +kernel
theorem dX0_firstWrongPlace_11 : decode cX0_firstWrongPlace 11 = .ok (.getfield 9, 3) := by decide +kernel
theorem dX0_firstWrongPlace_14 : decode cX0_firstWrongPlace 14 = .ok (.iload_n 1, 1) := by decide +kernel
theorem dX0_firstWrongPlace_15 : decode cX0_firstWrongPlace 15 = .ok (.iaload, 1) := by decide +kernel
theorem dX0_firstWrongPlace_16 : decode cX0_firstWrongPlace 16 = .ok (.bipush 46, 2) := by decide +kernel
theorem dX0_firstWrongPlace_18 : decode cX0_firstWrongPlace 18 = .ok (.if_icmp .ne 17, 3) := by decide +kernel
theorem dX0_firstWrongPlace_21 : decode cX0_firstWrongPlace 21 = .ok (.aload_n 0, 1) := by decide +kernel
theorem dX0_firstWrongPlace_22 : decode cX0_firstWrongPlace 22 = .ok (.iload_n 1, 1) := by decide +kernel
theorem dX0_firstWrongPlace_23 : decode cX0_firstWrongPlace 23 = .ok (.iconst 1, 1) := by decide +kernel
theorem dX0_firstWrongPlace_24 : decode cX0_firstWrongPlace 24 = .ok (.isub, 1) := by decide +kernel
theorem dX0_firstWrongPlace_25 : decode cX0_firstWrongPlace 25 = .ok (.invokevirtual 19, 3) := by decide +kernel
theorem dX0_firstWrongPlace_28 : decode cX0_firstWrongPlace 28 = .ok (.ifCond .eq 7, 3) := by decide +kernel
theorem dX0_firstWrongPlace_31 : decode cX0_firstWrongPlace 31 = .ok (.iconst 1, 1) := by decide +kernel
theorem dX0_firstWrongPlace_32 : decode cX0_firstWrongPlace 32 = .ok (.goto 4, 3) := by decide +kernel
theorem dX0_firstWrongPlace_35 : decode cX0_firstWrongPlace 35 = .ok (.iconst 0, 1) := by decide +kernel
theorem dX0_firstWrongPlace_36 : decode cX0_firstWrongPlace 36 = .ok (.istore_n 2, 1) := by decide +kernel
theorem dX0_firstWrongPlace_37 : decode cX0_firstWrongPlace 37 = .ok (.aload_n 0, 1) := by decide +kernel
theorem dX0_firstWrongPlace_38 : decode cX0_firstWrongPlace 38 = .ok (.iload_n 1, 1) := by decide +kernel
theorem dX0_firstWrongPlace_39 : decode cX0_firstWrongPlace 39 = .ok (.invokevirtual 19, 3) := by decide +kernel
theorem dX0_firstWrongPlace_42 : decode cX0_firstWrongPlace 42 = .ok (.ifCond .ne 9, 3) := by decide +kernel
theorem dX0_firstWrongPlace_45 : decode cX0_firstWrongPlace 45 = .ok (.iload_n 2, 1) := by decide +kernel
theorem dX0_firstWrongPlace_46 : decode cX0_firstWrongPlace 46 = .ok (.ifCond .ne 5, 3) := by decide +kernel
theorem dX0_firstWrongPlace_49 : decode cX0_firstWrongPlace 49 = .ok (.iload_n 1, 1) := by decide +kernel
theorem dX0_firstWrongPlace_50 : decode cX0_firstWrongPlace 50 = .ok (.ireturn, 1) := by decide +kernel
theorem dX0_firstWrongPlace_51 : decode cX0_firstWrongPlace 51 = .ok (.iinc 1 1, 3) := by decide +kernel
theorem dX0_firstWrongPlace_54 : decode cX0_firstWrongPlace 54 = .ok (.goto (-52), 3) := by decide +kernel
theorem dX0_firstWrongPlace_57 : decode cX0_firstWrongPlace 57 = .ok (.aload_n 0, 1) := by decide +kernel
theorem dX0_firstWrongPlace_58 : decode cX0_firstWrongPlace 58 = .ok (.getfield 15, 3) := by decide +kernel
theorem dX0_firstWrongPlace_61 : decode cX0_firstWrongPlace 61 = .ok (.ireturn, 1) := by decide +kernel
theorem dX0_tellsText_0 : decode cX0_tellsText 0 = .ok (.aload_n 0, 1) := by decide +kernel
theorem dX0_tellsText_1 : decode cX0_tellsText 1 = .ok (.invokevirtual 27, 3) := by decide +kernel
theorem dX0_tellsText_4 : decode cX0_tellsText 4 = .ok (.aload_n 0, 1) := by decide +kernel
theorem dX0_tellsText_5 : decode cX0_tellsText 5 = .ok (.getfield 15, 3) := by decide +kernel
theorem dX0_tellsText_8 : decode cX0_tellsText 8 = .ok (.if_icmp .ne 20, 3) := by decide +kernel
theorem dX0_tellsText_11 : decode cX0_tellsText 11 = .ok (.aload_n 0, 1) := by decide +kernel
theorem dX0_tellsText_12 : decode cX0_tellsText 12 = .ok (.aload_n 0, 1) := by decide +kernel
theorem dX0_tellsText_13 : decode cX0_tellsText 13 = .ok (.getfield 15, 3) := by decide +kernel
theorem dX0_tellsText_16 : decode cX0_tellsText 16 = .ok (.iconst 1, 1) := by decide +kernel
theorem dX0_tellsText_17 : decode cX0_tellsText 17 = .ok (.isub, 1) := by decide +kernel
theorem dX0_tellsText_18 : decode cX0_tellsText 18 = .ok (.invokevirtual 19, 3) := by decide +kernel
theorem dX0_tellsText_21 : decode cX0_tellsText 21 = .ok (.ifCond .eq 7, 3) := by decide +kernel
theorem dX0_tellsText_24 : decode cX0_tellsText 24 = .ok (.iconst 1, 1) := by decide +kernel
theorem dX0_tellsText_25 : decode cX0_tellsText 25 = .ok (.goto 4, 3) := by decide +kernel
theorem dX0_tellsText_28 : decode cX0_tellsText 28 = .ok (.iconst 0, 1) := by decide +kernel
theorem dX0_tellsText_29 : decode cX0_tellsText 29 = .ok (.ireturn, 1) := by decide +kernel
theorem dX1_init_0 : decode cX1_init 0 = .ok (.aload_n 0, 1) := by decide +kernel
theorem dX1_init_1 : decode cX1_init 1 = .ok (.invokespecial 3, 3) := by decide +kernel
theorem dX1_init_4 : decode cX1_init 4 = .ok (.aload_n 0, 1) := by decide +kernel
theorem dX1_init_5 : decode cX1_init 5 = .ok (.bipush 10, 2) := by decide +kernel
theorem dX1_init_7 : decode cX1_init 7 = .ok (.newarray .int, 2) := by decide +kernel
theorem dX1_init_9 : decode cX1_init 9 = .ok (.putfield 9, 3) := by decide +kernel
theorem dX1_init_12 : decode cX1_init 12 = .ok (.aload_n 0, 1) := by decide +kernel
theorem dX1_init_13 : decode cX1_init 13 = .ok (.bipush 100, 2) := by decide +kernel
theorem dX1_init_15 : decode cX1_init 15 = .ok (.newarray .int, 2) := by decide +kernel
theorem dX1_init_17 : decode cX1_init 17 = .ok (.putfield 15, 3) := by decide +kernel
theorem dX1_init_20 : decode cX1_init 20 = .ok (.aload_n 0, 1) := by decide +kernel
theorem dX1_init_21 : decode cX1_init 21 = .ok (.bipush 61, 2) := by decide +kernel
theorem dX1_init_23 : decode cX1_init 23 = .ok (.newarray .int, 2) := by decide +kernel
theorem dX1_init_25 : decode cX1_init 25 = .ok (.putfield 18, 3) := by decide +kernel
theorem dX1_init_28 : decode cX1_init 28 = .ok (.aload_n 0, 1) := by decide +kernel
theorem dX1_init_29 : decode cX1_init 29 = .ok (.bipush 62, 2) := by decide +kernel
theorem dX1_init_31 : decode cX1_init 31 = .ok (.newarray .int, 2) := by decide +kernel
theorem dX1_init_33 : decode cX1_init 33 = .ok (.putfield 21, 3) := by decide +kernel
theorem dX1_init_36 : decode cX1_init 36 = .ok (.aload_n 0, 1) := by decide +kernel
theorem dX1_init_37 : decode cX1_init 37 = .ok (.iconst 0, 1) := by decide +kernel
theorem dX1_init_38 : decode cX1_init 38 = .ok (.putfield 24, 3) := by decide +kernel
theorem dX1_init_41 : decode cX1_init 41 = .ok (.return_, 1) := by decide +kernel
theorem dX1_widthAt_0 : decode cX1_widthAt 0 = .ok (.aload_n 2, 1) := by decide +kernel
theorem dX1_widthAt_1 : decode cX1_widthAt 1 = .ok (.iload_n 3, 1) := by decide +kernel
theorem dX1_widthAt_2 : decode cX1_widthAt 2 = .ok (.invokevirtual 28, 3) := by decide +kernel
theorem dX1_widthAt_5 : decode cX1_widthAt 5 = .ok (.ifCond .ne 10, 3) := by decide +kernel
theorem dX1_widthAt_8 : decode cX1_widthAt 8 = .ok (.aload_n 1, 1) := by decide +kernel
theorem dX1_widthAt_9 : decode cX1_widthAt 9 = .ok (.getfield 34, 3) := by decide +kernel
theorem dX1_widthAt_12 : decode cX1_widthAt 12 = .ok (.iconst 2, 1) := by decide +kernel
theorem dX1_widthAt_13 : decode cX1_widthAt 13 = .ok (.iaload, 1) := by decide +kernel
theorem dX1_widthAt_14 : decode cX1_widthAt 14 = .ok (.ireturn, 1) := by decide +kernel
theorem dX1_widthAt_15 : decode cX1_widthAt 15 = .ok (.aload_n 1, 1) := by decide +kernel
theorem dX1_widthAt_16 : decode cX1_widthAt 16 = .ok (.getfield 39, 3) := by decide +kernel
theorem dX1_widthAt_19 : decode cX1_widthAt 19 = .ok (.aload_n 2, 1) := by decide +kernel
theorem dX1_widthAt_20 : decode cX1_widthAt 20 = .ok (.iload_n 3, 1) := by decide +kernel
theorem dX1_widthAt_21 : decode cX1_widthAt 21 = .ok (.invokevirtual 42, 3) := by decide +kernel
theorem dX1_widthAt_24 : decode cX1_widthAt 24 = .ok (.iaload, 1) := by decide +kernel
theorem dX1_widthAt_25 : decode cX1_widthAt 25 = .ok (.istore 4, 2) := by decide +kernel
theorem dX1_widthAt_27 : decode cX1_widthAt 27 = .ok (.aload_n 2, 1) := by decide +kernel
theorem dX1_widthAt_28 : decode cX1_widthAt 28 = .ok (.iload_n 3, 1) := by decide +kernel
theorem dX1_widthAt_29 : decode cX1_widthAt 29 = .ok (.invokevirtual 46, 3) := by decide +kernel
theorem dX1_widthAt_32 : decode cX1_widthAt 32 = .ok (.ifCond .eq 21, 3) := by decide +kernel
theorem dX1_widthAt_35 : decode cX1_widthAt 35 = .ok (.iload 4, 2) := by decide +kernel
theorem dX1_widthAt_37 : decode cX1_widthAt 37 = .ok (.aload_n 1, 1) := by decide +kernel
theorem dX1_widthAt_38 : decode cX1_widthAt 38 = .ok (.getfield 49, 3) := by decide +kernel
theorem dX1_widthAt_41 : decode cX1_widthAt 41 = .ok (.aload_n 1, 1) := by decide +kernel
theorem dX1_widthAt_42 : decode cX1_widthAt 42 = .ok (.aload_n 2, 1) := by decide +kernel
theorem dX1_widthAt_43 : decode cX1_widthAt 43 = .ok (.iload_n 3, 1) := by decide +kernel
theorem dX1_widthAt_44 : decode cX1_widthAt 44 = .ok (.invokevirtual 53, 3) := by decide +kernel
theorem dX1_widthAt_47 : decode cX1_widthAt 47 = .ok (.invokevirtual 56, 3) := by decide +kernel
theorem dX1_widthAt_50 : decode cX1_widthAt 50 = .ok (.iadd, 1) := by decide +kernel
theorem dX1_widthAt_51 : decode cX1_widthAt 51 = .ok (.istore 4, 2) := by decide +kernel
theorem dX1_widthAt_53 : decode cX1_widthAt 53 = .ok (.iload 4, 2) := by decide +kernel
theorem dX1_widthAt_55 : decode cX1_widthAt 55 = .ok (.ireturn, 1) := by decide +kernel
theorem dX1_widthByPlaces_0 : decode cX1_widthByPlaces 0 = .ok (.iconst 0, 1) := by decide +kernel
theorem dX1_widthByPlaces_1 : decode cX1_widthByPlaces 1 = .ok (.istore_n 3, 1) := by decide +kernel
theorem dX1_widthByPlaces_2 : decode cX1_widthByPlaces 2 = .ok (.iconst 0, 1) := by decide +kernel
theorem dX1_widthByPlaces_3 : decode cX1_widthByPlaces 3 = .ok (.istore 4, 2) := by decide +kernel
theorem dX1_widthByPlaces_5 : decode cX1_widthByPlaces 5 = .ok (.iload 4, 2) := by decide +kernel
theorem dX1_widthByPlaces_7 : decode cX1_widthByPlaces 7 = .ok (.aload_n 2, 1) := by decide +kernel
theorem dX1_widthByPlaces_8 : decode cX1_widthByPlaces 8 = .ok (.getfield 62, 3) := by decide +kernel
theorem dX1_widthByPlaces_11 : decode cX1_widthByPlaces 11 = .ok (.if_icmp .ge 20, 3) := by decide +kernel
theorem dX1_widthByPlaces_14 : decode cX1_widthByPlaces 14 = .ok (.iload_n 3, 1) := by decide +kernel
theorem dX1_widthByPlaces_15 : decode cX1_widthByPlaces 15 = .ok (.aload_n 0, 1) := by decide +kernel
theorem dX1_widthByPlaces_16 : decode cX1_widthByPlaces 16 = .ok (.aload_n 1, 1) := by decide +kernel
theorem dX1_widthByPlaces_17 : decode cX1_widthByPlaces 17 = .ok (.aload_n 2, 1) := by decide +kernel
theorem dX1_widthByPlaces_18 : decode cX1_widthByPlaces 18 = .ok (.iload 4, 2) := by decide +kernel
theorem dX1_widthByPlaces_20 : decode cX1_widthByPlaces 20 = .ok (.invokevirtual 65, 3) := by decide +kernel
theorem dX1_widthByPlaces_23 : decode cX1_widthByPlaces 23 = .ok (.iadd, 1) := by decide +kernel
theorem dX1_widthByPlaces_24 : decode cX1_widthByPlaces 24 = .ok (.istore_n 3, 1) := by decide +kernel
theorem dX1_widthByPlaces_25 : decode cX1_widthByPlaces 25 = .ok (.iinc 4 1, 3) := by decide +kernel
theorem dX1_widthByPlaces_28 : decode cX1_widthByPlaces 28 = .ok (.goto (-23), 3) := by decide +kernel
theorem dX1_widthByPlaces_31 : decode cX1_widthByPlaces 31 = .ok (.iload_n 3, 1) := by decide +kernel
theorem dX1_widthByPlaces_32 : decode cX1_widthByPlaces 32 = .ok (.ireturn, 1) := by decide +kernel
theorem dX1_widthByCounts_0 : decode cX1_widthByCounts 0 = .ok (.aload_n 0, 1) := by decide +kernel
theorem dX1_widthByCounts_1 : decode cX1_widthByCounts 1 = .ok (.getfield 9, 3) := by decide +kernel
theorem dX1_widthByCounts_4 : decode cX1_widthByCounts 4 = .ok (.iconst 0, 1) := by decide +kernel
theorem dX1_widthByCounts_5 : decode cX1_widthByCounts 5 = .ok (.invokestatic 69, 3) := by decide +kernel
theorem dX1_widthByCounts_8 : decode cX1_widthByCounts 8 = .ok (.aload_n 0, 1) := by decide +kernel
theorem dX1_widthByCounts_9 : decode cX1_widthByCounts 9 = .ok (.getfield 15, 3) := by decide +kernel
theorem dX1_widthByCounts_12 : decode cX1_widthByCounts 12 = .ok (.iconst 0, 1) := by decide +kernel
theorem dX1_widthByCounts_13 : decode cX1_widthByCounts 13 = .ok (.invokestatic 69, 3) := by decide +kernel
theorem dX1_widthByCounts_16 : decode cX1_widthByCounts 16 = .ok (.iconst 0, 1) := by decide +kernel
theorem dX1_widthByCounts_17 : decode cX1_widthByCounts 17 = .ok (.istore_n 3, 1) := by decide +kernel
theorem dX1_widthByCounts_18 : decode cX1_widthByCounts 18 = .ok (.iconst 0, 1) := by decide +kernel
theorem dX1_widthByCounts_19 : decode cX1_widthByCounts 19 = .ok (.istore 4, 2) := by decide +kernel
theorem dX1_widthByCounts_21 : decode cX1_widthByCounts 21 = .ok (.iload 4, 2) := by decide +kernel
theorem dX1_widthByCounts_23 : decode cX1_widthByCounts 23 = .ok (.aload_n 2, 1) := by decide +kernel
theorem dX1_widthByCounts_24 : decode cX1_widthByCounts 24 = .ok (.getfield 62, 3) := by decide +kernel
theorem dX1_widthByCounts_27 : decode cX1_widthByCounts 27 = .ok (.if_icmp .ge 63, 3) := by decide +kernel
theorem dX1_widthByCounts_30 : decode cX1_widthByCounts 30 = .ok (.aload_n 2, 1) := by decide +kernel
theorem dX1_widthByCounts_31 : decode cX1_widthByCounts 31 = .ok (.iload 4, 2) := by decide +kernel
theorem dX1_widthByCounts_33 : decode cX1_widthByCounts 33 = .ok (.invokevirtual 28, 3) := by decide +kernel
theorem dX1_widthByCounts_36 : decode cX1_widthByCounts 36 = .ok (.ifCond .eq 21, 3) := by decide +kernel
theorem dX1_widthByCounts_39 : decode cX1_widthByCounts 39 = .ok (.aload_n 0, 1) := by decide +kernel
theorem dX1_widthByCounts_40 : decode cX1_widthByCounts 40 = .ok (.getfield 9, 3) := by decide +kernel
theorem dX1_widthByCounts_43 : decode cX1_widthByCounts 43 = .ok (.aload_n 2, 1) := by decide +kernel
theorem dX1_widthByCounts_44 : decode cX1_widthByCounts 44 = .ok (.iload 4, 2) := by decide +kernel
theorem dX1_widthByCounts_46 : decode cX1_widthByCounts 46 = .ok (.invokevirtual 42, 3) := by decide +kernel
theorem dX1_widthByCounts_49 : decode cX1_widthByCounts 49 = .ok (.dup2, 1) := by decide +kernel
theorem dX1_widthByCounts_50 : decode cX1_widthByCounts 50 = .ok (.iaload, 1) := by decide +kernel
theorem dX1_widthByCounts_51 : decode cX1_widthByCounts 51 = .ok (.iconst 1, 1) := by decide +kernel
theorem dX1_widthByCounts_52 : decode cX1_widthByCounts 52 = .ok (.iadd, 1) := by decide +kernel
theorem dX1_widthByCounts_53 : decode cX1_widthByCounts 53 = .ok (.iastore, 1) := by decide +kernel
theorem dX1_widthByCounts_54 : decode cX1_widthByCounts 54 = .ok (.goto 6, 3) := by decide +kernel
theorem dX1_widthByCounts_57 : decode cX1_widthByCounts 57 = .ok (.iinc 3 1, 3) := by decide +kernel
theorem dX1_widthByCounts_60 : decode cX1_widthByCounts 60 = .ok (.aload_n 2, 1) := by decide +kernel
theorem dX1_widthByCounts_61 : decode cX1_widthByCounts 61 = .ok (.iload 4, 2) := by decide +kernel
theorem dX1_widthByCounts_63 : decode cX1_widthByCounts 63 = .ok (.invokevirtual 46, 3) := by decide +kernel
theorem dX1_widthByCounts_66 : decode cX1_widthByCounts 66 = .ok (.ifCond .eq 18, 3) := by decide +kernel
theorem dX1_widthByCounts_69 : decode cX1_widthByCounts 69 = .ok (.aload_n 0, 1) := by decide +kernel
theorem dX1_widthByCounts_70 : decode cX1_widthByCounts 70 = .ok (.getfield 15, 3) := by decide +kernel
theorem dX1_widthByCounts_73 : decode cX1_widthByCounts 73 = .ok (.aload_n 2, 1) := by decide +kernel
theorem dX1_widthByCounts_74 : decode cX1_widthByCounts 74 = .ok (.iload 4, 2) := by decide +kernel
theorem dX1_widthByCounts_76 : decode cX1_widthByCounts 76 = .ok (.invokevirtual 53, 3) := by decide +kernel
theorem dX1_widthByCounts_79 : decode cX1_widthByCounts 79 = .ok (.dup2, 1) := by decide +kernel
theorem dX1_widthByCounts_80 : decode cX1_widthByCounts 80 = .ok (.iaload, 1) := by decide +kernel
theorem dX1_widthByCounts_81 : decode cX1_widthByCounts 81 = .ok (.iconst 1, 1) := by decide +kernel
theorem dX1_widthByCounts_82 : decode cX1_widthByCounts 82 = .ok (.iadd, 1) := by decide +kernel
theorem dX1_widthByCounts_83 : decode cX1_widthByCounts 83 = .ok (.iastore, 1) := by decide +kernel
theorem dX1_widthByCounts_84 : decode cX1_widthByCounts 84 = .ok (.iinc 4 1, 3) := by decide +kernel
theorem dX1_widthByCounts_87 : decode cX1_widthByCounts 87 = .ok (.goto (-66), 3) := by decide +kernel
theorem dX1_widthByCounts_90 : decode cX1_widthByCounts 90 = .ok (.iload_n 3, 1) := by decide +kernel
theorem dX1_widthByCounts_91 : decode cX1_widthByCounts 91 = .ok (.aload_n 1, 1) := by decide +kernel
theorem dX1_widthByCounts_92 : decode cX1_widthByCounts 92 = .ok (.getfield 34, 3) := by decide +kernel
theorem dX1_widthByCounts_95 : decode cX1_widthByCounts 95 = .ok (.iconst 2, 1) := by decide +kernel
theorem dX1_widthByCounts_96 : decode cX1_widthByCounts 96 = .ok (.iaload, 1) := by decide +kernel
theorem dX1_widthByCounts_97 : decode cX1_widthByCounts 97 = .ok (.imul, 1) := by decide +kernel
theorem dX1_widthByCounts_98 : decode cX1_widthByCounts 98 = .ok (.istore 4, 2) := by decide +kernel
theorem dX1_widthByCounts_100 : decode cX1_widthByCounts 100 = .ok (.iconst 0, 1) := by decide +kernel
theorem dX1_widthByCounts_101 : decode cX1_widthByCounts 101 = .ok (.istore 5, 2) := by decide +kernel
theorem dX1_widthByCounts_103 : decode cX1_widthByCounts 103 = .ok (.iload 5, 2) := by decide +kernel
theorem dX1_widthByCounts_105 : decode cX1_widthByCounts 105 = .ok (.bipush 10, 2) := by decide +kernel
theorem dX1_widthByCounts_107 : decode cX1_widthByCounts 107 = .ok (.if_icmp .ge 29, 3) := by decide +kernel
theorem dX1_widthByCounts_110 : decode cX1_widthByCounts 110 = .ok (.iload 4, 2) := by decide +kernel
theorem dX1_widthByCounts_112 : decode cX1_widthByCounts 112 = .ok (.aload_n 0, 1) := by decide +kernel
theorem dX1_widthByCounts_113 : decode cX1_widthByCounts 113 = .ok (.getfield 9, 3) := by decide +kernel
theorem dX1_widthByCounts_116 : decode cX1_widthByCounts 116 = .ok (.iload 5, 2) := by decide +kernel
theorem dX1_widthByCounts_118 : decode cX1_widthByCounts 118 = .ok (.iaload, 1) := by decide +kernel
theorem dX1_widthByCounts_119 : decode cX1_widthByCounts 119 = .ok (.aload_n 1, 1) := by decide +kernel
theorem dX1_widthByCounts_120 : decode cX1_widthByCounts 120 = .ok (.getfield 39, 3) := by decide +kernel
theorem dX1_widthByCounts_123 : decode cX1_widthByCounts 123 = .ok (.iload 5, 2) := by decide +kernel
theorem dX1_widthByCounts_125 : decode cX1_widthByCounts 125 = .ok (.iaload, 1) := by decide +kernel
theorem dX1_widthByCounts_126 : decode cX1_widthByCounts 126 = .ok (.imul, 1) := by decide +kernel
theorem dX1_widthByCounts_127 : decode cX1_widthByCounts 127 = .ok (.iadd, 1) := by decide +kernel
theorem dX1_widthByCounts_128 : decode cX1_widthByCounts 128 = .ok (.istore 4, 2) := by decide +kernel
theorem dX1_widthByCounts_130 : decode cX1_widthByCounts 130 = .ok (.iinc 5 1, 3) := by decide +kernel
theorem dX1_widthByCounts_133 : decode cX1_widthByCounts 133 = .ok (.goto (-30), 3) := by decide +kernel
theorem dX1_widthByCounts_136 : decode cX1_widthByCounts 136 = .ok (.iconst 0, 1) := by decide +kernel
theorem dX1_widthByCounts_137 : decode cX1_widthByCounts 137 = .ok (.istore 5, 2) := by decide +kernel
theorem dX1_widthByCounts_139 : decode cX1_widthByCounts 139 = .ok (.iload 5, 2) := by decide +kernel
theorem dX1_widthByCounts_141 : decode cX1_widthByCounts 141 = .ok (.bipush 100, 2) := by decide +kernel
theorem dX1_widthByCounts_143 : decode cX1_widthByCounts 143 = .ok (.if_icmp .ge 32, 3) := by decide +kernel
theorem dX1_widthByCounts_146 : decode cX1_widthByCounts 146 = .ok (.iload 4, 2) := by decide +kernel
theorem dX1_widthByCounts_148 : decode cX1_widthByCounts 148 = .ok (.aload_n 0, 1) := by decide +kernel
theorem dX1_widthByCounts_149 : decode cX1_widthByCounts 149 = .ok (.getfield 15, 3) := by decide +kernel
theorem dX1_widthByCounts_152 : decode cX1_widthByCounts 152 = .ok (.iload 5, 2) := by decide +kernel
theorem dX1_widthByCounts_154 : decode cX1_widthByCounts 154 = .ok (.iaload, 1) := by decide +kernel
theorem dX1_widthByCounts_155 : decode cX1_widthByCounts 155 = .ok (.aload_n 1, 1) := by decide +kernel
theorem dX1_widthByCounts_156 : decode cX1_widthByCounts 156 = .ok (.getfield 49, 3) := by decide +kernel
theorem dX1_widthByCounts_159 : decode cX1_widthByCounts 159 = .ok (.aload_n 1, 1) := by decide +kernel
theorem dX1_widthByCounts_160 : decode cX1_widthByCounts 160 = .ok (.iload 5, 2) := by decide +kernel
theorem dX1_widthByCounts_162 : decode cX1_widthByCounts 162 = .ok (.invokevirtual 56, 3) := by decide +kernel
theorem dX1_widthByCounts_165 : decode cX1_widthByCounts 165 = .ok (.imul, 1) := by decide +kernel
theorem dX1_widthByCounts_166 : decode cX1_widthByCounts 166 = .ok (.iadd, 1) := by decide +kernel
theorem dX1_widthByCounts_167 : decode cX1_widthByCounts 167 = .ok (.istore 4, 2) := by decide +kernel
theorem dX1_widthByCounts_169 : decode cX1_widthByCounts 169 = .ok (.iinc 5 1, 3) := by decide +kernel
theorem dX1_widthByCounts_172 : decode cX1_widthByCounts 172 = .ok (.goto (-33), 3) := by decide +kernel
theorem dX1_widthByCounts_175 : decode cX1_widthByCounts 175 = .ok (.iload 4, 2) := by decide +kernel
theorem dX1_widthByCounts_177 : decode cX1_widthByCounts 177 = .ok (.ireturn, 1) := by decide +kernel
theorem dX1_findWords_0 : decode cX1_findWords 0 = .ok (.aload_n 0, 1) := by decide +kernel
theorem dX1_findWords_1 : decode cX1_findWords 1 = .ok (.getfield 18, 3) := by decide +kernel
theorem dX1_findWords_4 : decode cX1_findWords 4 = .ok (.iconst 0, 1) := by decide +kernel
theorem dX1_findWords_5 : decode cX1_findWords 5 = .ok (.invokestatic 69, 3) := by decide +kernel
theorem dX1_findWords_8 : decode cX1_findWords 8 = .ok (.aload_n 0, 1) := by decide +kernel
theorem dX1_findWords_9 : decode cX1_findWords 9 = .ok (.iconst 1, 1) := by decide +kernel
theorem dX1_findWords_10 : decode cX1_findWords 10 = .ok (.putfield 24, 3) := by decide +kernel
theorem dX1_findWords_13 : decode cX1_findWords 13 = .ok (.iconst 0, 1) := by decide +kernel
theorem dX1_findWords_14 : decode cX1_findWords 14 = .ok (.istore_n 3, 1) := by decide +kernel
theorem dX1_findWords_15 : decode cX1_findWords 15 = .ok (.iload_n 3, 1) := by decide +kernel
theorem dX1_findWords_16 : decode cX1_findWords 16 = .ok (.aload_n 2, 1) := by decide +kernel
theorem dX1_findWords_17 : decode cX1_findWords 17 = .ok (.getfield 62, 3) := by decide +kernel
theorem dX1_findWords_20 : decode cX1_findWords 20 = .ok (.if_icmp .ge 51, 3) := by decide +kernel
theorem dX1_findWords_23 : decode cX1_findWords 23 = .ok (.aload_n 2, 1) := by decide +kernel
theorem dX1_findWords_24 : decode cX1_findWords 24 = .ok (.iload_n 3, 1) := by decide +kernel
theorem dX1_findWords_25 : decode cX1_findWords 25 = .ok (.invokevirtual 28, 3) := by decide +kernel
theorem dX1_findWords_28 : decode cX1_findWords 28 = .ok (.ifCond .eq 27, 3) := by decide +kernel
theorem dX1_findWords_31 : decode cX1_findWords 31 = .ok (.aload_n 0, 1) := by decide +kernel
theorem dX1_findWords_32 : decode cX1_findWords 32 = .ok (.getfield 18, 3) := by decide +kernel
theorem dX1_findWords_35 : decode cX1_findWords 35 = .ok (.aload_n 0, 1) := by decide +kernel
theorem dX1_findWords_36 : decode cX1_findWords 36 = .ok (.getfield 24, 3) := by decide +kernel
theorem dX1_findWords_39 : decode cX1_findWords 39 = .ok (.iconst 1, 1) := by decide +kernel
theorem dX1_findWords_40 : decode cX1_findWords 40 = .ok (.isub, 1) := by decide +kernel
theorem dX1_findWords_41 : decode cX1_findWords 41 = .ok (.dup2, 1) := by decide +kernel
theorem dX1_findWords_42 : decode cX1_findWords 42 = .ok (.iaload, 1) := by decide +kernel
theorem dX1_findWords_43 : decode cX1_findWords 43 = .ok (.aload_n 0, 1) := by decide +kernel
theorem dX1_findWords_44 : decode cX1_findWords 44 = .ok (.aload_n 1, 1) := by decide +kernel
theorem dX1_findWords_45 : decode cX1_findWords 45 = .ok (.aload_n 2, 1) := by decide +kernel
theorem dX1_findWords_46 : decode cX1_findWords 46 = .ok (.iload_n 3, 1) := by decide +kernel
theorem dX1_findWords_47 : decode cX1_findWords 47 = .ok (.invokevirtual 65, 3) := by decide +kernel
theorem dX1_findWords_50 : decode cX1_findWords 50 = .ok (.iadd, 1) := by decide +kernel
theorem dX1_findWords_51 : decode cX1_findWords 51 = .ok (.iastore, 1) := by decide +kernel
theorem dX1_findWords_52 : decode cX1_findWords 52 = .ok (.goto 13, 3) := by decide +kernel
theorem dX1_findWords_55 : decode cX1_findWords 55 = .ok (.aload_n 0, 1) := by decide +kernel
theorem dX1_findWords_56 : decode cX1_findWords 56 = .ok (.dup, 1) := by decide +kernel
theorem dX1_findWords_57 : decode cX1_findWords 57 = .ok (.getfield 24, 3) := by decide +kernel
theorem dX1_findWords_60 : decode cX1_findWords 60 = .ok (.iconst 1, 1) := by decide +kernel
theorem dX1_findWords_61 : decode cX1_findWords 61 = .ok (.iadd, 1) := by decide +kernel
theorem dX1_findWords_62 : decode cX1_findWords 62 = .ok (.putfield 24, 3) := by decide +kernel
theorem dX1_findWords_65 : decode cX1_findWords 65 = .ok (.iinc 3 1, 3) := by decide +kernel
theorem dX1_findWords_68 : decode cX1_findWords 68 = .ok (.goto (-53), 3) := by decide +kernel
theorem dX1_findWords_71 : decode cX1_findWords 71 = .ok (.return_, 1) := by decide +kernel
theorem dX1_widestWord_0 : decode cX1_widestWord 0 = .ok (.iconst 0, 1) := by decide +kernel
theorem dX1_widestWord_1 : decode cX1_widestWord 1 = .ok (.istore_n 1, 1) := by decide +kernel
theorem dX1_widestWord_2 : decode cX1_widestWord 2 = .ok (.iconst 0, 1) := by decide +kernel
theorem dX1_widestWord_3 : decode cX1_widestWord 3 = .ok (.istore_n 2, 1) := by decide +kernel
theorem dX1_widestWord_4 : decode cX1_widestWord 4 = .ok (.iload_n 2, 1) := by decide +kernel
theorem dX1_widestWord_5 : decode cX1_widestWord 5 = .ok (.aload_n 0, 1) := by decide +kernel
theorem dX1_widestWord_6 : decode cX1_widestWord 6 = .ok (.getfield 24, 3) := by decide +kernel
theorem dX1_widestWord_9 : decode cX1_widestWord 9 = .ok (.if_icmp .ge 20, 3) := by decide +kernel
theorem dX1_widestWord_12 : decode cX1_widestWord 12 = .ok (.iload_n 1, 1) := by decide +kernel
theorem dX1_widestWord_13 : decode cX1_widestWord 13 = .ok (.aload_n 0, 1) := by decide +kernel
theorem dX1_widestWord_14 : decode cX1_widestWord 14 = .ok (.getfield 18, 3) := by decide +kernel
theorem dX1_widestWord_17 : decode cX1_widestWord 17 = .ok (.iload_n 2, 1) := by decide +kernel
theorem dX1_widestWord_18 : decode cX1_widestWord 18 = .ok (.iaload, 1) := by decide +kernel
theorem dX1_widestWord_19 : decode cX1_widestWord 19 = .ok (.invokestatic 75, 3) := by decide +kernel
theorem dX1_widestWord_22 : decode cX1_widestWord 22 = .ok (.istore_n 1, 1) := by decide +kernel
theorem dX1_widestWord_23 : decode cX1_widestWord 23 = .ok (.iinc 2 1, 3) := by decide +kernel
theorem dX1_widestWord_26 : decode cX1_widestWord 26 = .ok (.goto (-22), 3) := by decide +kernel
theorem dX1_widestWord_29 : decode cX1_widestWord 29 = .ok (.iload_n 1, 1) := by decide +kernel
theorem dX1_widestWord_30 : decode cX1_widestWord 30 = .ok (.ireturn, 1) := by decide +kernel
theorem dX1_linesByFilling_0 : decode cX1_linesByFilling 0 = .ok (.iconst 1, 1) := by decide +kernel
theorem dX1_linesByFilling_1 : decode cX1_linesByFilling 1 = .ok (.istore_n 2, 1) := by decide +kernel
theorem dX1_linesByFilling_2 : decode cX1_linesByFilling 2 = .ok (.aload_n 0, 1) := by decide +kernel
theorem dX1_linesByFilling_3 : decode cX1_linesByFilling 3 = .ok (.getfield 18, 3) := by decide +kernel
theorem dX1_linesByFilling_6 : decode cX1_linesByFilling 6 = .ok (.iconst 0, 1) := by decide +kernel
theorem dX1_linesByFilling_7 : decode cX1_linesByFilling 7 = .ok (.iaload, 1) := by decide +kernel
theorem dX1_linesByFilling_8 : decode cX1_linesByFilling 8 = .ok (.istore_n 3, 1) := by decide +kernel
theorem dX1_linesByFilling_9 : decode cX1_linesByFilling 9 = .ok (.iconst 1, 1) := by decide +kernel
theorem dX1_linesByFilling_10 : decode cX1_linesByFilling 10 = .ok (.istore 4, 2) := by decide +kernel
theorem dX1_linesByFilling_12 : decode cX1_linesByFilling 12 = .ok (.iload 4, 2) := by decide +kernel
theorem dX1_linesByFilling_14 : decode cX1_linesByFilling 14 = .ok (.aload_n 0, 1) := by decide +kernel
theorem dX1_linesByFilling_15 : decode cX1_linesByFilling 15 = .ok (.getfield 24, 3) := by decide +kernel
theorem dX1_linesByFilling_18 : decode cX1_linesByFilling 18 = .ok (.if_icmp .ge 55, 3) := by decide +kernel
theorem dX1_linesByFilling_21 : decode cX1_linesByFilling 21 = .ok (.iload_n 3, 1) := by decide +kernel
theorem dX1_linesByFilling_22 : decode cX1_linesByFilling 22 = .ok (.aload_n 1, 1) := by decide +kernel
theorem dX1_linesByFilling_23 : decode cX1_linesByFilling 23 = .ok (.getfield 34, 3) := by decide +kernel
theorem dX1_linesByFilling_26 : decode cX1_linesByFilling 26 = .ok (.iconst 2, 1) := by decide +kernel
theorem dX1_linesByFilling_27 : decode cX1_linesByFilling 27 = .ok (.iaload, 1) := by decide +kernel
theorem dX1_linesByFilling_28 : decode cX1_linesByFilling 28 = .ok (.iadd, 1) := by decide +kernel
theorem dX1_linesByFilling_29 : decode cX1_linesByFilling 29 = .ok (.aload_n 0, 1) := by decide +kernel
theorem dX1_linesByFilling_30 : decode cX1_linesByFilling 30 = .ok (.getfield 18, 3) := by decide +kernel
theorem dX1_linesByFilling_33 : decode cX1_linesByFilling 33 = .ok (.iload 4, 2) := by decide +kernel
theorem dX1_linesByFilling_35 : decode cX1_linesByFilling 35 = .ok (.iaload, 1) := by decide +kernel
theorem dX1_linesByFilling_36 : decode cX1_linesByFilling 36 = .ok (.iadd, 1) := by decide +kernel
theorem dX1_linesByFilling_37 : decode cX1_linesByFilling 37 = .ok (.istore 5, 2) := by decide +kernel
theorem dX1_linesByFilling_39 : decode cX1_linesByFilling 39 = .ok (.iload 5, 2) := by decide +kernel
theorem dX1_linesByFilling_41 : decode cX1_linesByFilling 41 = .ok (.aload_n 1, 1) := by decide +kernel
theorem dX1_linesByFilling_42 : decode cX1_linesByFilling 42 = .ok (.getfield 34, 3) := by decide +kernel
theorem dX1_linesByFilling_45 : decode cX1_linesByFilling 45 = .ok (.iconst 3, 1) := by decide +kernel
theorem dX1_linesByFilling_46 : decode cX1_linesByFilling 46 = .ok (.iaload, 1) := by decide +kernel
theorem dX1_linesByFilling_47 : decode cX1_linesByFilling 47 = .ok (.if_icmp .gt 9, 3) := by decide +kernel
theorem dX1_linesByFilling_50 : decode cX1_linesByFilling 50 = .ok (.iload 5, 2) := by decide +kernel
theorem dX1_linesByFilling_52 : decode cX1_linesByFilling 52 = .ok (.istore_n 3, 1) := by decide +kernel
theorem dX1_linesByFilling_53 : decode cX1_linesByFilling 53 = .ok (.goto 14, 3) := by decide +kernel
theorem dX1_linesByFilling_56 : decode cX1_linesByFilling 56 = .ok (.iinc 2 1, 3) := by decide +kernel
theorem dX1_linesByFilling_59 : decode cX1_linesByFilling 59 = .ok (.aload_n 0, 1) := by decide +kernel
theorem dX1_linesByFilling_60 : decode cX1_linesByFilling 60 = .ok (.getfield 18, 3) := by decide +kernel
theorem dX1_linesByFilling_63 : decode cX1_linesByFilling 63 = .ok (.iload 4, 2) := by decide +kernel
theorem dX1_linesByFilling_65 : decode cX1_linesByFilling 65 = .ok (.iaload, 1) := by decide +kernel
theorem dX1_linesByFilling_66 : decode cX1_linesByFilling 66 = .ok (.istore_n 3, 1) := by decide +kernel
theorem dX1_linesByFilling_67 : decode cX1_linesByFilling 67 = .ok (.iinc 4 1, 3) := by decide +kernel
theorem dX1_linesByFilling_70 : decode cX1_linesByFilling 70 = .ok (.goto (-58), 3) := by decide +kernel
theorem dX1_linesByFilling_73 : decode cX1_linesByFilling 73 = .ok (.iload_n 2, 1) := by decide +kernel
theorem dX1_linesByFilling_74 : decode cX1_linesByFilling 74 = .ok (.ireturn, 1) := by decide +kernel
theorem dX1_linesFromBehind_0 : decode cX1_linesFromBehind 0 = .ok (.aload_n 0, 1) := by decide +kernel
theorem dX1_linesFromBehind_1 : decode cX1_linesFromBehind 1 = .ok (.getfield 21, 3) := by decide +kernel
theorem dX1_linesFromBehind_4 : decode cX1_linesFromBehind 4 = .ok (.aload_n 0, 1) := by decide +kernel
theorem dX1_linesFromBehind_5 : decode cX1_linesFromBehind 5 = .ok (.getfield 24, 3) := by decide +kernel
theorem dX1_linesFromBehind_8 : decode cX1_linesFromBehind 8 = .ok (.iconst 0, 1) := by decide +kernel
theorem dX1_linesFromBehind_9 : decode cX1_linesFromBehind 9 = .ok (.iastore, 1) := by decide +kernel
theorem dX1_linesFromBehind_10 : decode cX1_linesFromBehind 10 = .ok (.aload_n 0, 1) := by decide +kernel
theorem dX1_linesFromBehind_11 : decode cX1_linesFromBehind 11 = .ok (.getfield 24, 3) := by decide +kernel
theorem dX1_linesFromBehind_14 : decode cX1_linesFromBehind 14 = .ok (.iconst 1, 1) := by decide +kernel
theorem dX1_linesFromBehind_15 : decode cX1_linesFromBehind 15 = .ok (.isub, 1) := by decide +kernel
theorem dX1_linesFromBehind_16 : decode cX1_linesFromBehind 16 = .ok (.istore_n 2, 1) := by decide +kernel
theorem dX1_linesFromBehind_17 : decode cX1_linesFromBehind 17 = .ok (.iload_n 2, 1) := by decide +kernel
theorem dX1_linesFromBehind_18 : decode cX1_linesFromBehind 18 = .ok (.ifCond .lt 101, 3) := by decide +kernel
theorem dX1_linesFromBehind_21 : decode cX1_linesFromBehind 21 = .ok (.iconst 1, 1) := by decide +kernel
theorem dX1_linesFromBehind_22 : decode cX1_linesFromBehind 22 = .ok (.aload_n 0, 1) := by decide +kernel
theorem dX1_linesFromBehind_23 : decode cX1_linesFromBehind 23 = .ok (.getfield 21, 3) := by decide +kernel
theorem dX1_linesFromBehind_26 : decode cX1_linesFromBehind 26 = .ok (.iload_n 2, 1) := by decide +kernel
theorem dX1_linesFromBehind_27 : decode cX1_linesFromBehind 27 = .ok (.iconst 1, 1) := by decide +kernel
theorem dX1_linesFromBehind_28 : decode cX1_linesFromBehind 28 = .ok (.iadd, 1) := by decide +kernel
theorem dX1_linesFromBehind_29 : decode cX1_linesFromBehind 29 = .ok (.iaload, 1) := by decide +kernel
theorem dX1_linesFromBehind_30 : decode cX1_linesFromBehind 30 = .ok (.iadd, 1) := by decide +kernel
theorem dX1_linesFromBehind_31 : decode cX1_linesFromBehind 31 = .ok (.istore_n 3, 1) := by decide +kernel
theorem dX1_linesFromBehind_32 : decode cX1_linesFromBehind 32 = .ok (.aload_n 0, 1) := by decide +kernel
theorem dX1_linesFromBehind_33 : decode cX1_linesFromBehind 33 = .ok (.getfield 18, 3) := by decide +kernel
theorem dX1_linesFromBehind_36 : decode cX1_linesFromBehind 36 = .ok (.iload_n 2, 1) := by decide +kernel
theorem dX1_linesFromBehind_37 : decode cX1_linesFromBehind 37 = .ok (.iaload, 1) := by decide +kernel
theorem dX1_linesFromBehind_38 : decode cX1_linesFromBehind 38 = .ok (.istore 4, 2) := by decide +kernel
theorem dX1_linesFromBehind_40 : decode cX1_linesFromBehind 40 = .ok (.iload_n 2, 1) := by decide +kernel
theorem dX1_linesFromBehind_41 : decode cX1_linesFromBehind 41 = .ok (.iconst 1, 1) := by decide +kernel
theorem dX1_linesFromBehind_42 : decode cX1_linesFromBehind 42 = .ok (.iadd, 1) := by decide +kernel
theorem dX1_linesFromBehind_43 : decode cX1_linesFromBehind 43 = .ok (.istore 5, 2) := by decide +kernel
theorem dX1_linesFromBehind_45 : decode cX1_linesFromBehind 45 = .ok (.iload 5, 2) := by decide +kernel
theorem dX1_linesFromBehind_47 : decode cX1_linesFromBehind 47 = .ok (.aload_n 0, 1) := by decide +kernel
theorem dX1_linesFromBehind_48 : decode cX1_linesFromBehind 48 = .ok (.getfield 24, 3) := by decide +kernel
theorem dX1_linesFromBehind_51 : decode cX1_linesFromBehind 51 = .ok (.if_icmp .ge 55, 3) := by decide +kernel
theorem dX1_linesFromBehind_54 : decode cX1_linesFromBehind 54 = .ok (.iload 4, 2) := by decide +kernel
theorem dX1_linesFromBehind_56 : decode cX1_linesFromBehind 56 = .ok (.aload_n 1, 1) := by decide +kernel
theorem dX1_linesFromBehind_57 : decode cX1_linesFromBehind 57 = .ok (.getfield 34, 3) := by decide +kernel
theorem dX1_linesFromBehind_60 : decode cX1_linesFromBehind 60 = .ok (.iconst 2, 1) := by decide +kernel
theorem dX1_linesFromBehind_61 : decode cX1_linesFromBehind 61 = .ok (.iaload, 1) := by decide +kernel
theorem dX1_linesFromBehind_62 : decode cX1_linesFromBehind 62 = .ok (.aload_n 0, 1) := by decide +kernel
theorem dX1_linesFromBehind_63 : decode cX1_linesFromBehind 63 = .ok (.getfield 18, 3) := by decide +kernel
theorem dX1_linesFromBehind_66 : decode cX1_linesFromBehind 66 = .ok (.iload 5, 2) := by decide +kernel
theorem dX1_linesFromBehind_68 : decode cX1_linesFromBehind 68 = .ok (.iaload, 1) := by decide +kernel
theorem dX1_linesFromBehind_69 : decode cX1_linesFromBehind 69 = .ok (.iadd, 1) := by decide +kernel
theorem dX1_linesFromBehind_70 : decode cX1_linesFromBehind 70 = .ok (.iadd, 1) := by decide +kernel
theorem dX1_linesFromBehind_71 : decode cX1_linesFromBehind 71 = .ok (.istore 4, 2) := by decide +kernel
theorem dX1_linesFromBehind_73 : decode cX1_linesFromBehind 73 = .ok (.iload 4, 2) := by decide +kernel
theorem dX1_linesFromBehind_75 : decode cX1_linesFromBehind 75 = .ok (.aload_n 1, 1) := by decide +kernel
theorem dX1_linesFromBehind_76 : decode cX1_linesFromBehind 76 = .ok (.getfield 34, 3) := by decide +kernel
theorem dX1_linesFromBehind_79 : decode cX1_linesFromBehind 79 = .ok (.iconst 3, 1) := by decide +kernel
theorem dX1_linesFromBehind_80 : decode cX1_linesFromBehind 80 = .ok (.iaload, 1) := by decide +kernel
theorem dX1_linesFromBehind_81 : decode cX1_linesFromBehind 81 = .ok (.if_icmp .gt 19, 3) := by decide +kernel
theorem dX1_linesFromBehind_84 : decode cX1_linesFromBehind 84 = .ok (.iload_n 3, 1) := by decide +kernel
theorem dX1_linesFromBehind_85 : decode cX1_linesFromBehind 85 = .ok (.iconst 1, 1) := by decide +kernel
theorem dX1_linesFromBehind_86 : decode cX1_linesFromBehind 86 = .ok (.aload_n 0, 1) := by decide +kernel
theorem dX1_linesFromBehind_87 : decode cX1_linesFromBehind 87 = .ok (.getfield 21, 3) := by decide +kernel
theorem dX1_linesFromBehind_90 : decode cX1_linesFromBehind 90 = .ok (.iload 5, 2) := by decide +kernel
theorem dX1_linesFromBehind_92 : decode cX1_linesFromBehind 92 = .ok (.iconst 1, 1) := by decide +kernel
theorem dX1_linesFromBehind_93 : decode cX1_linesFromBehind 93 = .ok (.iadd, 1) := by decide +kernel
theorem dX1_linesFromBehind_94 : decode cX1_linesFromBehind 94 = .ok (.iaload, 1) := by decide +kernel
theorem dX1_linesFromBehind_95 : decode cX1_linesFromBehind 95 = .ok (.iadd, 1) := by decide +kernel
theorem dX1_linesFromBehind_96 : decode cX1_linesFromBehind 96 = .ok (.invokestatic 81, 3) := by decide +kernel
theorem dX1_linesFromBehind_99 : decode cX1_linesFromBehind 99 = .ok (.istore_n 3, 1) := by decide +kernel
theorem dX1_linesFromBehind_100 : decode cX1_linesFromBehind 100 = .ok (.iinc 5 1, 3) := by decide +kernel
theorem dX1_linesFromBehind_103 : decode cX1_linesFromBehind 103 = .ok (.goto (-58), 3) := by decide +kernel
theorem dX1_linesFromBehind_106 : decode cX1_linesFromBehind 106 = .ok (.aload_n 0, 1) := by decide +kernel
theorem dX1_linesFromBehind_107 : decode cX1_linesFromBehind 107 = .ok (.getfield 21, 3) := by decide +kernel
theorem dX1_linesFromBehind_110 : decode cX1_linesFromBehind 110 = .ok (.iload_n 2, 1) := by decide +kernel
theorem dX1_linesFromBehind_111 : decode cX1_linesFromBehind 111 = .ok (.iload_n 3, 1) := by decide +kernel
theorem dX1_linesFromBehind_112 : decode cX1_linesFromBehind 112 = .ok (.iastore, 1) := by decide +kernel
theorem dX1_linesFromBehind_113 : decode cX1_linesFromBehind 113 = .ok (.iinc 2 (-1), 3) := by decide +kernel
theorem dX1_linesFromBehind_116 : decode cX1_linesFromBehind 116 = .ok (.goto (-99), 3) := by decide +kernel
theorem dX1_linesFromBehind_119 : decode cX1_linesFromBehind 119 = .ok (.aload_n 0, 1) := by decide +kernel
theorem dX1_linesFromBehind_120 : decode cX1_linesFromBehind 120 = .ok (.getfield 21, 3) := by decide +kernel
theorem dX1_linesFromBehind_123 : decode cX1_linesFromBehind 123 = .ok (.iconst 0, 1) := by decide +kernel
theorem dX1_linesFromBehind_124 : decode cX1_linesFromBehind 124 = .ok (.iaload, 1) := by decide +kernel
theorem dX1_linesFromBehind_125 : decode cX1_linesFromBehind 125 = .ok (.ireturn, 1) := by decide +kernel
theorem dX2_init_0 : decode cX2_init 0 = .ok (.aload_n 0, 1) := by decide +kernel
theorem dX2_init_1 : decode cX2_init 1 = .ok (.invokespecial 3, 3) := by decide +kernel
theorem dX2_init_4 : decode cX2_init 4 = .ok (.aload_n 0, 1) := by decide +kernel
theorem dX2_init_5 : decode cX2_init 5 = .ok (.bipush 10, 2) := by decide +kernel
theorem dX2_init_7 : decode cX2_init 7 = .ok (.newarray .int, 2) := by decide +kernel
theorem dX2_init_9 : decode cX2_init 9 = .ok (.putfield 9, 3) := by decide +kernel
theorem dX2_init_12 : decode cX2_init 12 = .ok (.aload_n 0, 1) := by decide +kernel
theorem dX2_init_13 : decode cX2_init 13 = .ok (.bipush 10, 2) := by decide +kernel
theorem dX2_init_15 : decode cX2_init 15 = .ok (.newarray .int, 2) := by decide +kernel
theorem dX2_init_17 : decode cX2_init 17 = .ok (.putfield 15, 3) := by decide +kernel
theorem dX2_init_20 : decode cX2_init 20 = .ok (.aload_n 0, 1) := by decide +kernel
theorem dX2_init_21 : decode cX2_init 21 = .ok (.bipush 10, 2) := by decide +kernel
theorem dX2_init_23 : decode cX2_init 23 = .ok (.newarray .int, 2) := by decide +kernel
theorem dX2_init_25 : decode cX2_init 25 = .ok (.putfield 18, 3) := by decide +kernel
theorem dX2_init_28 : decode cX2_init 28 = .ok (.aload_n 0, 1) := by decide +kernel
theorem dX2_init_29 : decode cX2_init 29 = .ok (.bipush 16, 2) := by decide +kernel
theorem dX2_init_31 : decode cX2_init 31 = .ok (.newarray .int, 2) := by decide +kernel
theorem dX2_init_33 : decode cX2_init 33 = .ok (.putfield 21, 3) := by decide +kernel
theorem dX2_init_36 : decode cX2_init 36 = .ok (.aload_n 0, 1) := by decide +kernel
theorem dX2_init_37 : decode cX2_init 37 = .ok (.iconst 4, 1) := by decide +kernel
theorem dX2_init_38 : decode cX2_init 38 = .ok (.newarray .int, 2) := by decide +kernel
theorem dX2_init_40 : decode cX2_init 40 = .ok (.putfield 24, 3) := by decide +kernel
theorem dX2_init_43 : decode cX2_init 43 = .ok (.aload_n 0, 1) := by decide +kernel
theorem dX2_init_44 : decode cX2_init 44 = .ok (.bipush 40, 2) := by decide +kernel
theorem dX2_init_46 : decode cX2_init 46 = .ok (.newarray .int, 2) := by decide +kernel
theorem dX2_init_48 : decode cX2_init 48 = .ok (.putfield 27, 3) := by decide +kernel
theorem dX2_init_51 : decode cX2_init 51 = .ok (.aload_n 0, 1) := by decide +kernel
theorem dX2_init_52 : decode cX2_init 52 = .ok (.bipush 40, 2) := by decide +kernel
theorem dX2_init_54 : decode cX2_init 54 = .ok (.newarray .int, 2) := by decide +kernel
theorem dX2_init_56 : decode cX2_init 56 = .ok (.putfield 30, 3) := by decide +kernel
theorem dX2_init_59 : decode cX2_init 59 = .ok (.aload_n 0, 1) := by decide +kernel
theorem dX2_init_60 : decode cX2_init 60 = .ok (.iconst 0, 1) := by decide +kernel
theorem dX2_init_61 : decode cX2_init 61 = .ok (.putfield 33, 3) := by decide +kernel
theorem dX2_init_64 : decode cX2_init 64 = .ok (.aload_n 0, 1) := by decide +kernel
theorem dX2_init_65 : decode cX2_init 65 = .ok (.new 37, 3) := by decide +kernel
theorem dX2_init_68 : decode cX2_init 68 = .ok (.dup, 1) := by decide +kernel
theorem dX2_init_69 : decode cX2_init 69 = .ok (.invokespecial 39, 3) := by decide +kernel
theorem dX2_init_72 : decode cX2_init 72 = .ok (.putfield 40, 3) := by decide +kernel
theorem dX2_init_75 : decode cX2_init 75 = .ok (.aload_n 0, 1) := by decide +kernel
theorem dX2_init_76 : decode cX2_init 76 = .ok (.iconst 0, 1) := by decide +kernel
theorem dX2_init_77 : decode cX2_init 77 = .ok (.putfield 44, 3) := by decide +kernel
theorem dX2_init_80 : decode cX2_init 80 = .ok (.aload_n 0, 1) := by decide +kernel
theorem dX2_init_81 : decode cX2_init 81 = .ok (.iconst 0, 1) := by decide +kernel
theorem dX2_init_82 : decode cX2_init 82 = .ok (.putfield 47, 3) := by decide +kernel
theorem dX2_init_85 : decode cX2_init 85 = .ok (.aload_n 0, 1) := by decide +kernel
theorem dX2_init_86 : decode cX2_init 86 = .ok (.iconst 0, 1) := by decide +kernel
theorem dX2_init_87 : decode cX2_init 87 = .ok (.putfield 50, 3) := by decide +kernel
theorem dX2_init_90 : decode cX2_init 90 = .ok (.iconst 0, 1) := by decide +kernel
theorem dX2_init_91 : decode cX2_init 91 = .ok (.istore_n 1, 1) := by decide +kernel
theorem dX2_init_92 : decode cX2_init 92 = .ok (.iload_n 1, 1) := by decide +kernel
theorem dX2_init_93 : decode cX2_init 93 = .ok (.bipush 10, 2) := by decide +kernel
theorem dX2_init_95 : decode cX2_init 95 = .ok (.if_icmp .ge 35, 3) := by decide +kernel
theorem dX2_init_98 : decode cX2_init 98 = .ok (.aload_n 0, 1) := by decide +kernel
theorem dX2_init_99 : decode cX2_init 99 = .ok (.getfield 9, 3) := by decide +kernel
theorem dX2_init_102 : decode cX2_init 102 = .ok (.iload_n 1, 1) := by decide +kernel
theorem dX2_init_103 : decode cX2_init 103 = .ok (.bipush 16, 2) := by decide +kernel
theorem dX2_init_105 : decode cX2_init 105 = .ok (.iastore, 1) := by decide +kernel
theorem dX2_init_106 : decode cX2_init 106 = .ok (.aload_n 0, 1) := by decide +kernel
theorem dX2_init_107 : decode cX2_init 107 = .ok (.getfield 15, 3) := by decide +kernel
theorem dX2_init_110 : decode cX2_init 110 = .ok (.iload_n 1, 1) := by decide +kernel
theorem dX2_init_111 : decode cX2_init 111 = .ok (.iload_n 1, 1) := by decide +kernel
theorem dX2_init_112 : decode cX2_init 112 = .ok (.iconst 4, 1) := by decide +kernel
theorem dX2_init_113 : decode cX2_init 113 = .ok (.irem, 1) := by decide +kernel
theorem dX2_init_114 : decode cX2_init 114 = .ok (.iastore, 1) := by decide +kernel
theorem dX2_init_115 : decode cX2_init 115 = .ok (.aload_n 0, 1) := by decide +kernel
theorem dX2_init_116 : decode cX2_init 116 = .ok (.getfield 18, 3) := by decide +kernel
theorem dX2_init_119 : decode cX2_init 119 = .ok (.iload_n 1, 1) := by decide +kernel
theorem dX2_init_120 : decode cX2_init 120 = .ok (.iload_n 1, 1) := by decide +kernel
theorem dX2_init_121 : decode cX2_init 121 = .ok (.iconst 4, 1) := by decide +kernel
theorem dX2_init_122 : decode cX2_init 122 = .ok (.irem, 1) := by decide +kernel
theorem dX2_init_123 : decode cX2_init 123 = .ok (.iastore, 1) := by decide +kernel
theorem dX2_init_124 : decode cX2_init 124 = .ok (.iinc 1 1, 3) := by decide +kernel
theorem dX2_init_127 : decode cX2_init 127 = .ok (.goto (-35), 3) := by decide +kernel
theorem dX2_init_130 : decode cX2_init 130 = .ok (.iconst 0, 1) := by decide +kernel
theorem dX2_init_131 : decode cX2_init 131 = .ok (.istore_n 1, 1) := by decide +kernel
theorem dX2_init_132 : decode cX2_init 132 = .ok (.iload_n 1, 1) := by decide +kernel
theorem dX2_init_133 : decode cX2_init 133 = .ok (.iconst 4, 1) := by decide +kernel
theorem dX2_init_134 : decode cX2_init 134 = .ok (.if_icmp .ge 20, 3) := by decide +kernel
theorem dX2_init_137 : decode cX2_init 137 = .ok (.aload_n 0, 1) := by decide +kernel
theorem dX2_init_138 : decode cX2_init 138 = .ok (.getfield 24, 3) := by decide +kernel
theorem dX2_init_141 : decode cX2_init 141 = .ok (.iload_n 1, 1) := by decide +kernel
theorem dX2_init_142 : decode cX2_init 142 = .ok (.getstatic 53, 3) := by decide +kernel
theorem dX2_init_145 : decode cX2_init 145 = .ok (.iload_n 1, 1) := by decide +kernel
theorem dX2_init_146 : decode cX2_init 146 = .ok (.iaload, 1) := by decide +kernel
theorem dX2_init_147 : decode cX2_init 147 = .ok (.iastore, 1) := by decide +kernel
theorem dX2_init_148 : decode cX2_init 148 = .ok (.iinc 1 1, 3) := by decide +kernel
theorem dX2_init_151 : decode cX2_init 151 = .ok (.goto (-19), 3) := by decide +kernel
theorem dX2_init_154 : decode cX2_init 154 = .ok (.return_, 1) := by decide +kernel
theorem dX2_becomeLike_0 : decode cX2_becomeLike 0 = .ok (.aload_n 1, 1) := by decide +kernel
theorem dX2_becomeLike_1 : decode cX2_becomeLike 1 = .ok (.getfield 9, 3) := by decide +kernel
theorem dX2_becomeLike_4 : decode cX2_becomeLike 4 = .ok (.iconst 0, 1) := by decide +kernel
theorem dX2_becomeLike_5 : decode cX2_becomeLike 5 = .ok (.aload_n 0, 1) := by decide +kernel
theorem dX2_becomeLike_6 : decode cX2_becomeLike 6 = .ok (.getfield 9, 3) := by decide +kernel
theorem dX2_becomeLike_9 : decode cX2_becomeLike 9 = .ok (.iconst 0, 1) := by decide +kernel
theorem dX2_becomeLike_10 : decode cX2_becomeLike 10 = .ok (.bipush 10, 2) := by decide +kernel
theorem dX2_becomeLike_12 : decode cX2_becomeLike 12 = .ok (.invokestatic 56, 3) := by decide +kernel
theorem dX2_becomeLike_15 : decode cX2_becomeLike 15 = .ok (.aload_n 1, 1) := by decide +kernel
theorem dX2_becomeLike_16 : decode cX2_becomeLike 16 = .ok (.getfield 15, 3) := by decide +kernel
theorem dX2_becomeLike_19 : decode cX2_becomeLike 19 = .ok (.iconst 0, 1) := by decide +kernel
theorem dX2_becomeLike_20 : decode cX2_becomeLike 20 = .ok (.aload_n 0, 1) := by decide +kernel
theorem dX2_becomeLike_21 : decode cX2_becomeLike 21 = .ok (.getfield 15, 3) := by decide +kernel
theorem dX2_becomeLike_24 : decode cX2_becomeLike 24 = .ok (.iconst 0, 1) := by decide +kernel
theorem dX2_becomeLike_25 : decode cX2_becomeLike 25 = .ok (.bipush 10, 2) := by decide +kernel
theorem dX2_becomeLike_27 : decode cX2_becomeLike 27 = .ok (.invokestatic 56, 3) := by decide +kernel
theorem dX2_becomeLike_30 : decode cX2_becomeLike 30 = .ok (.aload_n 1, 1) := by decide +kernel
theorem dX2_becomeLike_31 : decode cX2_becomeLike 31 = .ok (.getfield 18, 3) := by decide +kernel
theorem dX2_becomeLike_34 : decode cX2_becomeLike 34 = .ok (.iconst 0, 1) := by decide +kernel
theorem dX2_becomeLike_35 : decode cX2_becomeLike 35 = .ok (.aload_n 0, 1) := by decide +kernel
theorem dX2_becomeLike_36 : decode cX2_becomeLike 36 = .ok (.getfield 18, 3) := by decide +kernel
theorem dX2_becomeLike_39 : decode cX2_becomeLike 39 = .ok (.iconst 0, 1) := by decide +kernel
theorem dX2_becomeLike_40 : decode cX2_becomeLike 40 = .ok (.bipush 10, 2) := by decide +kernel
theorem dX2_becomeLike_42 : decode cX2_becomeLike 42 = .ok (.invokestatic 56, 3) := by decide +kernel
theorem dX2_becomeLike_45 : decode cX2_becomeLike 45 = .ok (.aload_n 1, 1) := by decide +kernel
theorem dX2_becomeLike_46 : decode cX2_becomeLike 46 = .ok (.getfield 21, 3) := by decide +kernel
theorem dX2_becomeLike_49 : decode cX2_becomeLike 49 = .ok (.iconst 0, 1) := by decide +kernel
theorem dX2_becomeLike_50 : decode cX2_becomeLike 50 = .ok (.aload_n 0, 1) := by decide +kernel
theorem dX2_becomeLike_51 : decode cX2_becomeLike 51 = .ok (.getfield 21, 3) := by decide +kernel
theorem dX2_becomeLike_54 : decode cX2_becomeLike 54 = .ok (.iconst 0, 1) := by decide +kernel
theorem dX2_becomeLike_55 : decode cX2_becomeLike 55 = .ok (.bipush 16, 2) := by decide +kernel
theorem dX2_becomeLike_57 : decode cX2_becomeLike 57 = .ok (.invokestatic 56, 3) := by decide +kernel
theorem dX2_becomeLike_60 : decode cX2_becomeLike 60 = .ok (.aload_n 1, 1) := by decide +kernel
theorem dX2_becomeLike_61 : decode cX2_becomeLike 61 = .ok (.getfield 24, 3) := by decide +kernel
theorem dX2_becomeLike_64 : decode cX2_becomeLike 64 = .ok (.iconst 0, 1) := by decide +kernel
theorem dX2_becomeLike_65 : decode cX2_becomeLike 65 = .ok (.aload_n 0, 1) := by decide +kernel
theorem dX2_becomeLike_66 : decode cX2_becomeLike 66 = .ok (.getfield 24, 3) := by decide +kernel
theorem dX2_becomeLike_69 : decode cX2_becomeLike 69 = .ok (.iconst 0, 1) := by decide +kernel
theorem dX2_becomeLike_70 : decode cX2_becomeLike 70 = .ok (.iconst 4, 1) := by decide +kernel
theorem dX2_becomeLike_71 : decode cX2_becomeLike 71 = .ok (.invokestatic 56, 3) := by decide +kernel
theorem dX2_becomeLike_74 : decode cX2_becomeLike 74 = .ok (.aload_n 1, 1) := by decide +kernel
theorem dX2_becomeLike_75 : decode cX2_becomeLike 75 = .ok (.getfield 27, 3) := by decide +kernel
theorem dX2_becomeLike_78 : decode cX2_becomeLike 78 = .ok (.iconst 0, 1) := by decide +kernel
theorem dX2_becomeLike_79 : decode cX2_becomeLike 79 = .ok (.aload_n 0, 1) := by decide +kernel
theorem dX2_becomeLike_80 : decode cX2_becomeLike 80 = .ok (.getfield 27, 3) := by decide +kernel
theorem dX2_becomeLike_83 : decode cX2_becomeLike 83 = .ok (.iconst 0, 1) := by decide +kernel
theorem dX2_becomeLike_84 : decode cX2_becomeLike 84 = .ok (.bipush 40, 2) := by decide +kernel
theorem dX2_becomeLike_86 : decode cX2_becomeLike 86 = .ok (.invokestatic 56, 3) := by decide +kernel
theorem dX2_becomeLike_89 : decode cX2_becomeLike 89 = .ok (.aload_n 1, 1) := by decide +kernel
theorem dX2_becomeLike_90 : decode cX2_becomeLike 90 = .ok (.getfield 30, 3) := by decide +kernel
theorem dX2_becomeLike_93 : decode cX2_becomeLike 93 = .ok (.iconst 0, 1) := by decide +kernel
theorem dX2_becomeLike_94 : decode cX2_becomeLike 94 = .ok (.aload_n 0, 1) := by decide +kernel
theorem dX2_becomeLike_95 : decode cX2_becomeLike 95 = .ok (.getfield 30, 3) := by decide +kernel
theorem dX2_becomeLike_98 : decode cX2_becomeLike 98 = .ok (.iconst 0, 1) := by decide +kernel
theorem dX2_becomeLike_99 : decode cX2_becomeLike 99 = .ok (.bipush 40, 2) := by decide +kernel
theorem dX2_becomeLike_101 : decode cX2_becomeLike 101 = .ok (.invokestatic 56, 3) := by decide +kernel
theorem dX2_becomeLike_104 : decode cX2_becomeLike 104 = .ok (.aload_n 0, 1) := by decide +kernel
theorem dX2_becomeLike_105 : decode cX2_becomeLike 105 = .ok (.aload_n 1, 1) := by decide +kernel
theorem dX2_becomeLike_106 : decode cX2_becomeLike 106 = .ok (.getfield 33, 3) := by decide +kernel
theorem dX2_becomeLike_109 : decode cX2_becomeLike 109 = .ok (.putfield 33, 3) := by decide +kernel
theorem dX2_becomeLike_112 : decode cX2_becomeLike 112 = .ok (.aload_n 0, 1) := by decide +kernel
theorem dX2_becomeLike_113 : decode cX2_becomeLike 113 = .ok (.getfield 40, 3) := by decide +kernel
theorem dX2_becomeLike_116 : decode cX2_becomeLike 116 = .ok (.aload_n 1, 1) := by decide +kernel
theorem dX2_becomeLike_117 : decode cX2_becomeLike 117 = .ok (.getfield 40, 3) := by decide +kernel
theorem dX2_becomeLike_120 : decode cX2_becomeLike 120 = .ok (.invokevirtual 62, 3) := by decide +kernel
theorem dX2_becomeLike_123 : decode cX2_becomeLike 123 = .ok (.aload_n 0, 1) := by decide +kernel
theorem dX2_becomeLike_124 : decode cX2_becomeLike 124 = .ok (.aload_n 1, 1) := by decide +kernel
theorem dX2_becomeLike_125 : decode cX2_becomeLike 125 = .ok (.getfield 44, 3) := by decide +kernel
theorem dX2_becomeLike_128 : decode cX2_becomeLike 128 = .ok (.putfield 44, 3) := by decide +kernel
theorem dX2_becomeLike_131 : decode cX2_becomeLike 131 = .ok (.aload_n 0, 1) := by decide +kernel
theorem dX2_becomeLike_132 : decode cX2_becomeLike 132 = .ok (.aload_n 1, 1) := by decide +kernel
theorem dX2_becomeLike_133 : decode cX2_becomeLike 133 = .ok (.getfield 47, 3) := by decide +kernel
theorem dX2_becomeLike_136 : decode cX2_becomeLike 136 = .ok (.putfield 47, 3) := by decide +kernel
theorem dX2_becomeLike_139 : decode cX2_becomeLike 139 = .ok (.aload_n 0, 1) := by decide +kernel
theorem dX2_becomeLike_140 : decode cX2_becomeLike 140 = .ok (.aload_n 1, 1) := by decide +kernel
theorem dX2_becomeLike_141 : decode cX2_becomeLike 141 = .ok (.getfield 50, 3) := by decide +kernel
theorem dX2_becomeLike_144 : decode cX2_becomeLike 144 = .ok (.putfield 50, 3) := by decide +kernel
theorem dX2_becomeLike_147 : decode cX2_becomeLike 147 = .ok (.return_, 1) := by decide +kernel
theorem dX2_shapesOfPair_0 : decode cX2_shapesOfPair 0 = .ok (.iconst 4, 1) := by decide +kernel
theorem dX2_shapesOfPair_1 : decode cX2_shapesOfPair 1 = .ok (.aload_n 0, 1) := by decide +kernel
theorem dX2_shapesOfPair_2 : decode cX2_shapesOfPair 2 = .ok (.getfield 18, 3) := by decide +kernel
theorem dX2_shapesOfPair_5 : decode cX2_shapesOfPair 5 = .ok (.iload_n 1, 1) := by decide +kernel
theorem dX2_shapesOfPair_6 : decode cX2_shapesOfPair 6 = .ok (.bipush 10, 2) := by decide +kernel
theorem dX2_shapesOfPair_8 : decode cX2_shapesOfPair 8 = .ok (.idiv, 1) := by decide +kernel
theorem dX2_shapesOfPair_9 : decode cX2_shapesOfPair 9 = .ok (.iaload, 1) := by decide +kernel
theorem dX2_shapesOfPair_10 : decode cX2_shapesOfPair 10 = .ok (.imul, 1) := by decide +kernel
theorem dX2_shapesOfPair_11 : decode cX2_shapesOfPair 11 = .ok (.aload_n 0, 1) := by decide +kernel
theorem dX2_shapesOfPair_12 : decode cX2_shapesOfPair 12 = .ok (.getfield 15, 3) := by decide +kernel
theorem dX2_shapesOfPair_15 : decode cX2_shapesOfPair 15 = .ok (.iload_n 1, 1) := by decide +kernel
theorem dX2_shapesOfPair_16 : decode cX2_shapesOfPair 16 = .ok (.bipush 10, 2) := by decide +kernel
theorem dX2_shapesOfPair_18 : decode cX2_shapesOfPair 18 = .ok (.irem, 1) := by decide +kernel
theorem dX2_shapesOfPair_19 : decode cX2_shapesOfPair 19 = .ok (.iaload, 1) := by decide +kernel
theorem dX2_shapesOfPair_20 : decode cX2_shapesOfPair 20 = .ok (.iadd, 1) := by decide +kernel
theorem dX2_shapesOfPair_21 : decode cX2_shapesOfPair 21 = .ok (.ireturn, 1) := by decide +kernel
theorem dX2_goThroughAgain_0 : decode cX2_goThroughAgain 0 = .ok (.aload_n 0, 1) := by decide +kernel
theorem dX2_goThroughAgain_1 : decode cX2_goThroughAgain 1 = .ok (.getfield 40, 3) := by decide +kernel
theorem dX2_goThroughAgain_4 : decode cX2_goThroughAgain 4 = .ok (.aload_n 0, 1) := by decide +kernel
theorem dX2_goThroughAgain_5 : decode cX2_goThroughAgain 5 = .ok (.iconst (-1), 1) := by decide +kernel
theorem dX2_goThroughAgain_6 : decode cX2_goThroughAgain 6 = .ok (.invokevirtual 66, 3) := by decide +kernel
theorem dX2_goThroughAgain_9 : decode cX2_goThroughAgain 9 = .ok (.aload_n 0, 1) := by decide +kernel
theorem dX2_goThroughAgain_10 : decode cX2_goThroughAgain 10 = .ok (.dup, 1) := by decide +kernel
theorem dX2_goThroughAgain_11 : decode cX2_goThroughAgain 11 = .ok (.getfield 50, 3) := by decide +kernel
theorem dX2_goThroughAgain_14 : decode cX2_goThroughAgain 14 = .ok (.iconst 1, 1) := by decide +kernel
theorem dX2_goThroughAgain_15 : decode cX2_goThroughAgain 15 = .ok (.iadd, 1) := by decide +kernel
theorem dX2_goThroughAgain_16 : decode cX2_goThroughAgain 16 = .ok (.putfield 50, 3) := by decide +kernel
theorem dX2_goThroughAgain_19 : decode cX2_goThroughAgain 19 = .ok (.return_, 1) := by decide +kernel
theorem dX2_addLesson_0 : decode cX2_addLesson 0 = .ok (.aload_n 0, 1) := by decide +kernel
theorem dX2_addLesson_1 : decode cX2_addLesson 1 = .ok (.getfield 27, 3) := by decide +kernel
theorem dX2_addLesson_4 : decode cX2_addLesson 4 = .ok (.aload_n 0, 1) := by decide +kernel
theorem dX2_addLesson_5 : decode cX2_addLesson 5 = .ok (.getfield 33, 3) := by decide +kernel
theorem dX2_addLesson_8 : decode cX2_addLesson 8 = .ok (.iload_n 1, 1) := by decide +kernel
theorem dX2_addLesson_9 : decode cX2_addLesson 9 = .ok (.iastore, 1) := by decide +kernel
theorem dX2_addLesson_10 : decode cX2_addLesson 10 = .ok (.aload_n 0, 1) := by decide +kernel
theorem dX2_addLesson_11 : decode cX2_addLesson 11 = .ok (.getfield 30, 3) := by decide +kernel
theorem dX2_addLesson_14 : decode cX2_addLesson 14 = .ok (.aload_n 0, 1) := by decide +kernel
theorem dX2_addLesson_15 : decode cX2_addLesson 15 = .ok (.getfield 33, 3) := by decide +kernel
theorem dX2_addLesson_18 : decode cX2_addLesson 18 = .ok (.iload_n 2, 1) := by decide +kernel
theorem dX2_addLesson_19 : decode cX2_addLesson 19 = .ok (.iastore, 1) := by decide +kernel
theorem dX2_addLesson_20 : decode cX2_addLesson 20 = .ok (.aload_n 0, 1) := by decide +kernel
theorem dX2_addLesson_21 : decode cX2_addLesson 21 = .ok (.getfield 40, 3) := by decide +kernel
theorem dX2_addLesson_24 : decode cX2_addLesson 24 = .ok (.getfield 70, 3) := by decide +kernel
theorem dX2_addLesson_27 : decode cX2_addLesson 27 = .ok (.aload_n 0, 1) := by decide +kernel
theorem dX2_addLesson_28 : decode cX2_addLesson 28 = .ok (.getfield 33, 3) := by decide +kernel
theorem dX2_addLesson_31 : decode cX2_addLesson 31 = .ok (.iconst 0, 1) := by decide +kernel
theorem dX2_addLesson_32 : decode cX2_addLesson 32 = .ok (.iastore, 1) := by decide +kernel
theorem dX2_addLesson_33 : decode cX2_addLesson 33 = .ok (.aload_n 0, 1) := by decide +kernel
theorem dX2_addLesson_34 : decode cX2_addLesson 34 = .ok (.dup, 1) := by decide +kernel
theorem dX2_addLesson_35 : decode cX2_addLesson 35 = .ok (.getfield 33, 3) := by decide +kernel
theorem dX2_addLesson_38 : decode cX2_addLesson 38 = .ok (.iconst 1, 1) := by decide +kernel
theorem dX2_addLesson_39 : decode cX2_addLesson 39 = .ok (.iadd, 1) := by decide +kernel
theorem dX2_addLesson_40 : decode cX2_addLesson 40 = .ok (.putfield 33, 3) := by decide +kernel
theorem dX2_addLesson_43 : decode cX2_addLesson 43 = .ok (.return_, 1) := by decide +kernel
theorem dX2_dropLesson_0 : decode cX2_dropLesson 0 = .ok (.iload_n 1, 1) := by decide +kernel
theorem dX2_dropLesson_1 : decode cX2_dropLesson 1 = .ok (.iconst 1, 1) := by decide +kernel
theorem dX2_dropLesson_2 : decode cX2_dropLesson 2 = .ok (.iadd, 1) := by decide +kernel
theorem dX2_dropLesson_3 : decode cX2_dropLesson 3 = .ok (.istore_n 2, 1) := by decide +kernel
theorem dX2_dropLesson_4 : decode cX2_dropLesson 4 = .ok (.iload_n 2, 1) := by decide +kernel
theorem dX2_dropLesson_5 : decode cX2_dropLesson 5 = .ok (.aload_n 0, 1) := by decide +kernel
theorem dX2_dropLesson_6 : decode cX2_dropLesson 6 = .ok (.getfield 33, 3) := by decide +kernel
theorem dX2_dropLesson_9 : decode cX2_dropLesson 9 = .ok (.if_icmp .ge 37, 3) := by decide +kernel
theorem dX2_dropLesson_12 : decode cX2_dropLesson 12 = .ok (.aload_n 0, 1) := by decide +kernel
theorem dX2_dropLesson_13 : decode cX2_dropLesson 13 = .ok (.getfield 27, 3) := by decide +kernel
theorem dX2_dropLesson_16 : decode cX2_dropLesson 16 = .ok (.iload_n 2, 1) := by decide +kernel
theorem dX2_dropLesson_17 : decode cX2_dropLesson 17 = .ok (.iconst 1, 1) := by decide +kernel
theorem dX2_dropLesson_18 : decode cX2_dropLesson 18 = .ok (.isub, 1) := by decide +kernel
theorem dX2_dropLesson_19 : decode cX2_dropLesson 19 = .ok (.aload_n 0, 1) := by decide +kernel
theorem dX2_dropLesson_20 : decode cX2_dropLesson 20 = .ok (.getfield 27, 3) := by decide +kernel
theorem dX2_dropLesson_23 : decode cX2_dropLesson 23 = .ok (.iload_n 2, 1) := by decide +kernel
theorem dX2_dropLesson_24 : decode cX2_dropLesson 24 = .ok (.iaload, 1) := by decide +kernel
theorem dX2_dropLesson_25 : decode cX2_dropLesson 25 = .ok (.iastore, 1) := by decide +kernel
theorem dX2_dropLesson_26 : decode cX2_dropLesson 26 = .ok (.aload_n 0, 1) := by decide +kernel
theorem dX2_dropLesson_27 : decode cX2_dropLesson 27 = .ok (.getfield 30, 3) := by decide +kernel
theorem dX2_dropLesson_30 : decode cX2_dropLesson 30 = .ok (.iload_n 2, 1) := by decide +kernel
theorem dX2_dropLesson_31 : decode cX2_dropLesson 31 = .ok (.iconst 1, 1) := by decide +kernel
theorem dX2_dropLesson_32 : decode cX2_dropLesson 32 = .ok (.isub, 1) := by decide +kernel
theorem dX2_dropLesson_33 : decode cX2_dropLesson 33 = .ok (.aload_n 0, 1) := by decide +kernel
theorem dX2_dropLesson_34 : decode cX2_dropLesson 34 = .ok (.getfield 30, 3) := by decide +kernel
theorem dX2_dropLesson_37 : decode cX2_dropLesson 37 = .ok (.iload_n 2, 1) := by decide +kernel
theorem dX2_dropLesson_38 : decode cX2_dropLesson 38 = .ok (.iaload, 1) := by decide +kernel
theorem dX2_dropLesson_39 : decode cX2_dropLesson 39 = .ok (.iastore, 1) := by decide +kernel
theorem dX2_dropLesson_40 : decode cX2_dropLesson 40 = .ok (.iinc 2 1, 3) := by decide +kernel
theorem dX2_dropLesson_43 : decode cX2_dropLesson 43 = .ok (.goto (-39), 3) := by decide +kernel
theorem dX2_dropLesson_46 : decode cX2_dropLesson 46 = .ok (.aload_n 0, 1) := by decide +kernel
theorem dX2_dropLesson_47 : decode cX2_dropLesson 47 = .ok (.dup, 1) := by decide +kernel
theorem dX2_dropLesson_48 : decode cX2_dropLesson 48 = .ok (.getfield 33, 3) := by decide +kernel
theorem dX2_dropLesson_51 : decode cX2_dropLesson 51 = .ok (.iconst 1, 1) := by decide +kernel
theorem dX2_dropLesson_52 : decode cX2_dropLesson 52 = .ok (.isub, 1) := by decide +kernel
theorem dX2_dropLesson_53 : decode cX2_dropLesson 53 = .ok (.putfield 33, 3) := by decide +kernel
theorem dX2_dropLesson_56 : decode cX2_dropLesson 56 = .ok (.return_, 1) := by decide +kernel
theorem dX2_lessonsWithLetter_0 : decode cX2_lessonsWithLetter 0 = .ok (.iconst 0, 1) := by decide +kernel
theorem dX2_lessonsWithLetter_1 : decode cX2_lessonsWithLetter 1 = .ok (.istore_n 2, 1) := by decide +kernel
theorem dX2_lessonsWithLetter_2 : decode cX2_lessonsWithLetter 2 = .ok (.iconst 0, 1) := by decide +kernel
theorem dX2_lessonsWithLetter_3 : decode cX2_lessonsWithLetter 3 = .ok (.istore_n 3, 1) := by decide +kernel
theorem dX2_lessonsWithLetter_4 : decode cX2_lessonsWithLetter 4 = .ok (.iload_n 3, 1) := by decide +kernel
theorem dX2_lessonsWithLetter_5 : decode cX2_lessonsWithLetter 5 = .ok (.aload_n 0, 1) := by decide +kernel
theorem dX2_lessonsWithLetter_6 : decode cX2_lessonsWithLetter 6 = .ok (.getfield 33, 3) := by decide +kernel
theorem dX2_lessonsWithLetter_9 : decode cX2_lessonsWithLetter 9 = .ok (.if_icmp .ge 41, 3) := by decide +kernel
theorem dX2_lessonsWithLetter_12 : decode cX2_lessonsWithLetter 12 = .ok (.aload_n 0, 1) := by decide +kernel
theorem dX2_lessonsWithLetter_13 : decode cX2_lessonsWithLetter 13 = .ok (.getfield 27, 3) := by decide +kernel
theorem dX2_lessonsWithLetter_16 : decode cX2_lessonsWithLetter 16 = .ok (.iload_n 3, 1) := by decide +kernel
theorem dX2_lessonsWithLetter_17 : decode cX2_lessonsWithLetter 17 = .ok (.iaload, 1) := by decide +kernel
theorem dX2_lessonsWithLetter_18 : decode cX2_lessonsWithLetter 18 = .ok (.bipush 10, 2) := by decide +kernel
theorem dX2_lessonsWithLetter_20 : decode cX2_lessonsWithLetter 20 = .ok (.idiv, 1) := by decide +kernel
theorem dX2_lessonsWithLetter_21 : decode cX2_lessonsWithLetter 21 = .ok (.iload_n 1, 1) := by decide +kernel
theorem dX2_lessonsWithLetter_22 : decode cX2_lessonsWithLetter 22 = .ok (.if_icmp .ne 6, 3) := by decide +kernel
theorem dX2_lessonsWithLetter_25 : decode cX2_lessonsWithLetter 25 = .ok (.iinc 2 1, 3) := by decide +kernel
theorem dX2_lessonsWithLetter_28 : decode cX2_lessonsWithLetter 28 = .ok (.aload_n 0, 1) := by decide +kernel
theorem dX2_lessonsWithLetter_29 : decode cX2_lessonsWithLetter 29 = .ok (.getfield 27, 3) := by decide +kernel
theorem dX2_lessonsWithLetter_32 : decode cX2_lessonsWithLetter 32 = .ok (.iload_n 3, 1) := by decide +kernel
theorem dX2_lessonsWithLetter_33 : decode cX2_lessonsWithLetter 33 = .ok (.iaload, 1) := by decide +kernel
theorem dX2_lessonsWithLetter_34 : decode cX2_lessonsWithLetter 34 = .ok (.bipush 10, 2) := by decide +kernel
theorem dX2_lessonsWithLetter_36 : decode cX2_lessonsWithLetter 36 = .ok (.irem, 1) := by decide +kernel
theorem dX2_lessonsWithLetter_37 : decode cX2_lessonsWithLetter 37 = .ok (.iload_n 1, 1) := by decide +kernel
theorem dX2_lessonsWithLetter_38 : decode cX2_lessonsWithLetter 38 = .ok (.if_icmp .ne 6, 3) := by decide +kernel
theorem dX2_lessonsWithLetter_41 : decode cX2_lessonsWithLetter 41 = .ok (.iinc 2 1, 3) := by decide +kernel
theorem dX2_lessonsWithLetter_44 : decode cX2_lessonsWithLetter 44 = .ok (.iinc 3 1, 3) := by decide +kernel
theorem dX2_lessonsWithLetter_47 : decode cX2_lessonsWithLetter 47 = .ok (.goto (-43), 3) := by decide +kernel
theorem dX2_lessonsWithLetter_50 : decode cX2_lessonsWithLetter 50 = .ok (.iload_n 2, 1) := by decide +kernel
theorem dX2_lessonsWithLetter_51 : decode cX2_lessonsWithLetter 51 = .ok (.ireturn, 1) := by decide +kernel
theorem dX2_idleLessons_0 : decode cX2_idleLessons 0 = .ok (.iconst 0, 1) := by decide +kernel
theorem dX2_idleLessons_1 : decode cX2_idleLessons 1 = .ok (.istore_n 1, 1) := by decide +kernel
theorem dX2_idleLessons_2 : decode cX2_idleLessons 2 = .ok (.iconst 0, 1) := by decide +kernel
theorem dX2_idleLessons_3 : decode cX2_idleLessons 3 = .ok (.istore_n 2, 1) := by decide +kernel
theorem dX2_idleLessons_4 : decode cX2_idleLessons 4 = .ok (.iload_n 2, 1) := by decide +kernel
theorem dX2_idleLessons_5 : decode cX2_idleLessons 5 = .ok (.aload_n 0, 1) := by decide +kernel
theorem dX2_idleLessons_6 : decode cX2_idleLessons 6 = .ok (.getfield 33, 3) := by decide +kernel
theorem dX2_idleLessons_9 : decode cX2_idleLessons 9 = .ok (.if_icmp .ge 21, 3) := by decide +kernel
theorem dX2_idleLessons_12 : decode cX2_idleLessons 12 = .ok (.iload_n 1, 1) := by decide +kernel
theorem dX2_idleLessons_13 : decode cX2_idleLessons 13 = .ok (.aload_n 0, 1) := by decide +kernel
theorem dX2_idleLessons_14 : decode cX2_idleLessons 14 = .ok (.getfield 40, 3) := by decide +kernel
theorem dX2_idleLessons_17 : decode cX2_idleLessons 17 = .ok (.getfield 70, 3) := by decide +kernel
theorem dX2_idleLessons_20 : decode cX2_idleLessons 20 = .ok (.iload_n 2, 1) := by decide +kernel
theorem dX2_idleLessons_21 : decode cX2_idleLessons 21 = .ok (.iaload, 1) := by decide +kernel
theorem dX2_idleLessons_22 : decode cX2_idleLessons 22 = .ok (.iadd, 1) := by decide +kernel
theorem dX2_idleLessons_23 : decode cX2_idleLessons 23 = .ok (.istore_n 1, 1) := by decide +kernel
theorem dX2_idleLessons_24 : decode cX2_idleLessons 24 = .ok (.iinc 2 1, 3) := by decide +kernel
theorem dX2_idleLessons_27 : decode cX2_idleLessons 27 = .ok (.goto (-23), 3) := by decide +kernel
theorem dX2_idleLessons_30 : decode cX2_idleLessons 30 = .ok (.iload_n 1, 1) := by decide +kernel
theorem dX2_idleLessons_31 : decode cX2_idleLessons 31 = .ok (.ireturn, 1) := by decide +kernel
theorem dX2_pairsWithShapes_0 : decode cX2_pairsWithShapes 0 = .ok (.iconst 0, 1) := by decide +kernel
theorem dX2_pairsWithShapes_1 : decode cX2_pairsWithShapes 1 = .ok (.istore_n 2, 1) := by decide +kernel
theorem dX2_pairsWithShapes_2 : decode cX2_pairsWithShapes 2 = .ok (.iconst 0, 1) := by decide +kernel
theorem dX2_pairsWithShapes_3 : decode cX2_pairsWithShapes 3 = .ok (.istore_n 3, 1) := by decide +kernel
theorem dX2_pairsWithShapes_4 : decode cX2_pairsWithShapes 4 = .ok (.iload_n 3, 1) := by decide +kernel
theorem dX2_pairsWithShapes_5 : decode cX2_pairsWithShapes 5 = .ok (.bipush 100, 2) := by decide +kernel
theorem dX2_pairsWithShapes_7 : decode cX2_pairsWithShapes 7 = .ok (.if_icmp .ge 21, 3) := by decide +kernel
theorem dX2_pairsWithShapes_10 : decode cX2_pairsWithShapes 10 = .ok (.aload_n 0, 1) := by decide +kernel
theorem dX2_pairsWithShapes_11 : decode cX2_pairsWithShapes 11 = .ok (.iload_n 3, 1) := by decide +kernel
theorem dX2_pairsWithShapes_12 : decode cX2_pairsWithShapes 12 = .ok (.invokevirtual 73, 3) := by decide +kernel
theorem dX2_pairsWithShapes_15 : decode cX2_pairsWithShapes 15 = .ok (.iload_n 1, 1) := by decide +kernel
theorem dX2_pairsWithShapes_16 : decode cX2_pairsWithShapes 16 = .ok (.if_icmp .ne 6, 3) := by decide +kernel
theorem dX2_pairsWithShapes_19 : decode cX2_pairsWithShapes 19 = .ok (.iinc 2 1, 3) := by decide +kernel
theorem dX2_pairsWithShapes_22 : decode cX2_pairsWithShapes 22 = .ok (.iinc 3 1, 3) := by decide +kernel
theorem dX2_pairsWithShapes_25 : decode cX2_pairsWithShapes 25 = .ok (.goto (-21), 3) := by decide +kernel
theorem dX2_pairsWithShapes_28 : decode cX2_pairsWithShapes 28 = .ok (.iload_n 2, 1) := by decide +kernel
theorem dX2_pairsWithShapes_29 : decode cX2_pairsWithShapes 29 = .ok (.ireturn, 1) := by decide +kernel
theorem dX2_learntPairsWithShapes_0 : decode cX2_learntPairsWithShapes 0 = .ok (.iconst 0, 1) := by decide +kernel
theorem dX2_learntPairsWithShapes_1 : decode cX2_learntPairsWithShapes 1 = .ok (.istore_n 2, 1) := by decide +kernel
theorem dX2_learntPairsWithShapes_2 : decode cX2_learntPairsWithShapes 2 = .ok (.iconst 0, 1) := by decide +kernel
theorem dX2_learntPairsWithShapes_3 : decode cX2_learntPairsWithShapes 3 = .ok (.istore_n 3, 1) := by decide +kernel
theorem dX2_learntPairsWithShapes_4 : decode cX2_learntPairsWithShapes 4 = .ok (.iload_n 3, 1) := by decide +kernel
theorem dX2_learntPairsWithShapes_5 : decode cX2_learntPairsWithShapes 5 = .ok (.aload_n 0, 1) := by decide +kernel
theorem dX2_learntPairsWithShapes_6 : decode cX2_learntPairsWithShapes 6 = .ok (.getfield 40, 3) := by decide +kernel
theorem dX2_learntPairsWithShapes_9 : decode cX2_learntPairsWithShapes 9 = .ok (.getfield 77, 3) := by decide +kernel
theorem dX2_learntPairsWithShapes_12 : decode cX2_learntPairsWithShapes 12 = .ok (.if_icmp .ge 29, 3) := by decide +kernel
theorem dX2_learntPairsWithShapes_15 : decode cX2_learntPairsWithShapes 15 = .ok (.aload_n 0, 1) := by decide +kernel
theorem dX2_learntPairsWithShapes_16 : decode cX2_learntPairsWithShapes 16 = .ok (.aload_n 0, 1) := by decide +kernel
theorem dX2_learntPairsWithShapes_17 : decode cX2_learntPairsWithShapes 17 = .ok (.getfield 40, 3) := by decide +kernel
theorem dX2_learntPairsWithShapes_20 : decode cX2_learntPairsWithShapes 20 = .ok (.getfield 80, 3) := by decide +kernel
theorem dX2_learntPairsWithShapes_23 : decode cX2_learntPairsWithShapes 23 = .ok (.iload_n 3, 1) := by decide +kernel
theorem dX2_learntPairsWithShapes_24 : decode cX2_learntPairsWithShapes 24 = .ok (.iaload, 1) := by decide +kernel
theorem dX2_learntPairsWithShapes_25 : decode cX2_learntPairsWithShapes 25 = .ok (.invokevirtual 73, 3) := by decide +kernel
theorem dX2_learntPairsWithShapes_28 : decode cX2_learntPairsWithShapes 28 = .ok (.iload_n 1, 1) := by decide +kernel
theorem dX2_learntPairsWithShapes_29 : decode cX2_learntPairsWithShapes 29 = .ok (.if_icmp .ne 6, 3) := by decide +kernel
theorem dX2_learntPairsWithShapes_32 : decode cX2_learntPairsWithShapes 32 = .ok (.iinc 2 1, 3) := by decide +kernel
theorem dX2_learntPairsWithShapes_35 : decode cX2_learntPairsWithShapes 35 = .ok (.iinc 3 1, 3) := by decide +kernel
theorem dX2_learntPairsWithShapes_38 : decode cX2_learntPairsWithShapes 38 = .ok (.goto (-34), 3) := by decide +kernel
theorem dX2_learntPairsWithShapes_41 : decode cX2_learntPairsWithShapes 41 = .ok (.iload_n 2, 1) := by decide +kernel
theorem dX2_learntPairsWithShapes_42 : decode cX2_learntPairsWithShapes 42 = .ok (.ireturn, 1) := by decide +kernel
theorem dX2_shapesOffTheirBase_0 : decode cX2_shapesOffTheirBase 0 = .ok (.iconst 0, 1) := by decide +kernel
theorem dX2_shapesOffTheirBase_1 : decode cX2_shapesOffTheirBase 1 = .ok (.istore_n 1, 1) := by decide +kernel
theorem dX2_shapesOffTheirBase_2 : decode cX2_shapesOffTheirBase 2 = .ok (.iconst 0, 1) := by decide +kernel
theorem dX2_shapesOffTheirBase_3 : decode cX2_shapesOffTheirBase 3 = .ok (.istore_n 2, 1) := by decide +kernel
theorem dX2_shapesOffTheirBase_4 : decode cX2_shapesOffTheirBase 4 = .ok (.iload_n 2, 1) := by decide +kernel
theorem dX2_shapesOffTheirBase_5 : decode cX2_shapesOffTheirBase 5 = .ok (.bipush 16, 2) := by decide +kernel
theorem dX2_shapesOffTheirBase_7 : decode cX2_shapesOffTheirBase 7 = .ok (.if_icmp .ge 30, 3) := by decide +kernel
theorem dX2_shapesOffTheirBase_10 : decode cX2_shapesOffTheirBase 10 = .ok (.aload_n 0, 1) := by decide +kernel
theorem dX2_shapesOffTheirBase_11 : decode cX2_shapesOffTheirBase 11 = .ok (.getfield 40, 3) := by decide +kernel
theorem dX2_shapesOffTheirBase_14 : decode cX2_shapesOffTheirBase 14 = .ok (.getfield 83, 3) := by decide +kernel
theorem dX2_shapesOffTheirBase_17 : decode cX2_shapesOffTheirBase 17 = .ok (.iload_n 2, 1) := by decide +kernel
theorem dX2_shapesOffTheirBase_18 : decode cX2_shapesOffTheirBase 18 = .ok (.iaload, 1) := by decide +kernel
theorem dX2_shapesOffTheirBase_19 : decode cX2_shapesOffTheirBase 19 = .ok (.aload_n 0, 1) := by decide +kernel
theorem dX2_shapesOffTheirBase_20 : decode cX2_shapesOffTheirBase 20 = .ok (.getfield 21, 3) := by decide +kernel
theorem dX2_shapesOffTheirBase_23 : decode cX2_shapesOffTheirBase 23 = .ok (.iload_n 2, 1) := by decide +kernel
theorem dX2_shapesOffTheirBase_24 : decode cX2_shapesOffTheirBase 24 = .ok (.iaload, 1) := by decide +kernel
theorem dX2_shapesOffTheirBase_25 : decode cX2_shapesOffTheirBase 25 = .ok (.if_icmp .eq 6, 3) := by decide +kernel
theorem dX2_shapesOffTheirBase_28 : decode cX2_shapesOffTheirBase 28 = .ok (.iinc 1 1, 3) := by decide +kernel
theorem dX2_shapesOffTheirBase_31 : decode cX2_shapesOffTheirBase 31 = .ok (.iinc 2 1, 3) := by decide +kernel
theorem dX2_shapesOffTheirBase_34 : decode cX2_shapesOffTheirBase 34 = .ok (.goto (-30), 3) := by decide +kernel
theorem dX2_shapesOffTheirBase_37 : decode cX2_shapesOffTheirBase 37 = .ok (.iload_n 1, 1) := by decide +kernel
theorem dX2_shapesOffTheirBase_38 : decode cX2_shapesOffTheirBase 38 = .ok (.ireturn, 1) := by decide +kernel
theorem dX3_init_0 : decode cX3_init 0 = .ok (.aload_n 0, 1) := by decide +kernel
theorem dX3_init_1 : decode cX3_init 1 = .ok (.invokespecial 3, 3) := by decide +kernel
theorem dX3_init_4 : decode cX3_init 4 = .ok (.aload_n 0, 1) := by decide +kernel
theorem dX3_init_5 : decode cX3_init 5 = .ok (.bipush 16, 2) := by decide +kernel
theorem dX3_init_7 : decode cX3_init 7 = .ok (.newarray .int, 2) := by decide +kernel
theorem dX3_init_9 : decode cX3_init 9 = .ok (.putfield 9, 3) := by decide +kernel
theorem dX3_init_12 : decode cX3_init 12 = .ok (.aload_n 0, 1) := by decide +kernel
theorem dX3_init_13 : decode cX3_init 13 = .ok (.bipush 100, 2) := by decide +kernel
theorem dX3_init_15 : decode cX3_init 15 = .ok (.newarray .int, 2) := by decide +kernel
theorem dX3_init_17 : decode cX3_init 17 = .ok (.putfield 15, 3) := by decide +kernel
theorem dX3_init_20 : decode cX3_init 20 = .ok (.aload_n 0, 1) := by decide +kernel
theorem dX3_init_21 : decode cX3_init 21 = .ok (.bipush 100, 2) := by decide +kernel
theorem dX3_init_23 : decode cX3_init 23 = .ok (.newarray .int, 2) := by decide +kernel
theorem dX3_init_25 : decode cX3_init 25 = .ok (.putfield 18, 3) := by decide +kernel
theorem dX3_init_28 : decode cX3_init 28 = .ok (.aload_n 0, 1) := by decide +kernel
theorem dX3_init_29 : decode cX3_init 29 = .ok (.bipush 100, 2) := by decide +kernel
theorem dX3_init_31 : decode cX3_init 31 = .ok (.newarray .int, 2) := by decide +kernel
theorem dX3_init_33 : decode cX3_init 33 = .ok (.putfield 21, 3) := by decide +kernel
theorem dX3_init_36 : decode cX3_init 36 = .ok (.aload_n 0, 1) := by decide +kernel
theorem dX3_init_37 : decode cX3_init 37 = .ok (.bipush 100, 2) := by decide +kernel
theorem dX3_init_39 : decode cX3_init 39 = .ok (.newarray .int, 2) := by decide +kernel
theorem dX3_init_41 : decode cX3_init 41 = .ok (.putfield 24, 3) := by decide +kernel
theorem dX3_init_44 : decode cX3_init 44 = .ok (.aload_n 0, 1) := by decide +kernel
theorem dX3_init_45 : decode cX3_init 45 = .ok (.bipush 100, 2) := by decide +kernel
theorem dX3_init_47 : decode cX3_init 47 = .ok (.newarray .int, 2) := by decide +kernel
theorem dX3_init_49 : decode cX3_init 49 = .ok (.putfield 27, 3) := by decide +kernel
theorem dX3_init_52 : decode cX3_init 52 = .ok (.aload_n 0, 1) := by decide +kernel
theorem dX3_init_53 : decode cX3_init 53 = .ok (.iconst 0, 1) := by decide +kernel
theorem dX3_init_54 : decode cX3_init 54 = .ok (.putfield 30, 3) := by decide +kernel
theorem dX3_init_57 : decode cX3_init 57 = .ok (.aload_n 0, 1) := by decide +kernel
theorem dX3_init_58 : decode cX3_init 58 = .ok (.bipush 40, 2) := by decide +kernel
theorem dX3_init_60 : decode cX3_init 60 = .ok (.newarray .int, 2) := by decide +kernel
theorem dX3_init_62 : decode cX3_init 62 = .ok (.putfield 34, 3) := by decide +kernel
theorem dX3_init_65 : decode cX3_init 65 = .ok (.return_, 1) := by decide +kernel
theorem dX3_becomeLike_0 : decode cX3_becomeLike 0 = .ok (.aload_n 1, 1) := by decide +kernel
theorem dX3_becomeLike_1 : decode cX3_becomeLike 1 = .ok (.getfield 9, 3) := by decide +kernel
theorem dX3_becomeLike_4 : decode cX3_becomeLike 4 = .ok (.iconst 0, 1) := by decide +kernel
theorem dX3_becomeLike_5 : decode cX3_becomeLike 5 = .ok (.aload_n 0, 1) := by decide +kernel
theorem dX3_becomeLike_6 : decode cX3_becomeLike 6 = .ok (.getfield 9, 3) := by decide +kernel
theorem dX3_becomeLike_9 : decode cX3_becomeLike 9 = .ok (.iconst 0, 1) := by decide +kernel
theorem dX3_becomeLike_10 : decode cX3_becomeLike 10 = .ok (.bipush 16, 2) := by decide +kernel
theorem dX3_becomeLike_12 : decode cX3_becomeLike 12 = .ok (.invokestatic 37, 3) := by decide +kernel
theorem dX3_becomeLike_15 : decode cX3_becomeLike 15 = .ok (.aload_n 1, 1) := by decide +kernel
theorem dX3_becomeLike_16 : decode cX3_becomeLike 16 = .ok (.getfield 15, 3) := by decide +kernel
theorem dX3_becomeLike_19 : decode cX3_becomeLike 19 = .ok (.iconst 0, 1) := by decide +kernel
theorem dX3_becomeLike_20 : decode cX3_becomeLike 20 = .ok (.aload_n 0, 1) := by decide +kernel
theorem dX3_becomeLike_21 : decode cX3_becomeLike 21 = .ok (.getfield 15, 3) := by decide +kernel
theorem dX3_becomeLike_24 : decode cX3_becomeLike 24 = .ok (.iconst 0, 1) := by decide +kernel
theorem dX3_becomeLike_25 : decode cX3_becomeLike 25 = .ok (.bipush 100, 2) := by decide +kernel
theorem dX3_becomeLike_27 : decode cX3_becomeLike 27 = .ok (.invokestatic 37, 3) := by decide +kernel
theorem dX3_becomeLike_30 : decode cX3_becomeLike 30 = .ok (.aload_n 1, 1) := by decide +kernel
theorem dX3_becomeLike_31 : decode cX3_becomeLike 31 = .ok (.getfield 18, 3) := by decide +kernel
theorem dX3_becomeLike_34 : decode cX3_becomeLike 34 = .ok (.iconst 0, 1) := by decide +kernel
theorem dX3_becomeLike_35 : decode cX3_becomeLike 35 = .ok (.aload_n 0, 1) := by decide +kernel
theorem dX3_becomeLike_36 : decode cX3_becomeLike 36 = .ok (.getfield 18, 3) := by decide +kernel
theorem dX3_becomeLike_39 : decode cX3_becomeLike 39 = .ok (.iconst 0, 1) := by decide +kernel
theorem dX3_becomeLike_40 : decode cX3_becomeLike 40 = .ok (.bipush 100, 2) := by decide +kernel
theorem dX3_becomeLike_42 : decode cX3_becomeLike 42 = .ok (.invokestatic 37, 3) := by decide +kernel
theorem dX3_becomeLike_45 : decode cX3_becomeLike 45 = .ok (.aload_n 1, 1) := by decide +kernel
theorem dX3_becomeLike_46 : decode cX3_becomeLike 46 = .ok (.getfield 21, 3) := by decide +kernel
theorem dX3_becomeLike_49 : decode cX3_becomeLike 49 = .ok (.iconst 0, 1) := by decide +kernel
theorem dX3_becomeLike_50 : decode cX3_becomeLike 50 = .ok (.aload_n 0, 1) := by decide +kernel
theorem dX3_becomeLike_51 : decode cX3_becomeLike 51 = .ok (.getfield 21, 3) := by decide +kernel
theorem dX3_becomeLike_54 : decode cX3_becomeLike 54 = .ok (.iconst 0, 1) := by decide +kernel
theorem dX3_becomeLike_55 : decode cX3_becomeLike 55 = .ok (.bipush 100, 2) := by decide +kernel
theorem dX3_becomeLike_57 : decode cX3_becomeLike 57 = .ok (.invokestatic 37, 3) := by decide +kernel
theorem dX3_becomeLike_60 : decode cX3_becomeLike 60 = .ok (.aload_n 1, 1) := by decide +kernel
theorem dX3_becomeLike_61 : decode cX3_becomeLike 61 = .ok (.getfield 24, 3) := by decide +kernel
theorem dX3_becomeLike_64 : decode cX3_becomeLike 64 = .ok (.iconst 0, 1) := by decide +kernel
theorem dX3_becomeLike_65 : decode cX3_becomeLike 65 = .ok (.aload_n 0, 1) := by decide +kernel
theorem dX3_becomeLike_66 : decode cX3_becomeLike 66 = .ok (.getfield 24, 3) := by decide +kernel
theorem dX3_becomeLike_69 : decode cX3_becomeLike 69 = .ok (.iconst 0, 1) := by decide +kernel
theorem dX3_becomeLike_70 : decode cX3_becomeLike 70 = .ok (.bipush 100, 2) := by decide +kernel
theorem dX3_becomeLike_72 : decode cX3_becomeLike 72 = .ok (.invokestatic 37, 3) := by decide +kernel
theorem dX3_becomeLike_75 : decode cX3_becomeLike 75 = .ok (.aload_n 1, 1) := by decide +kernel
theorem dX3_becomeLike_76 : decode cX3_becomeLike 76 = .ok (.getfield 27, 3) := by decide +kernel
theorem dX3_becomeLike_79 : decode cX3_becomeLike 79 = .ok (.iconst 0, 1) := by decide +kernel
theorem dX3_becomeLike_80 : decode cX3_becomeLike 80 = .ok (.aload_n 0, 1) := by decide +kernel
theorem dX3_becomeLike_81 : decode cX3_becomeLike 81 = .ok (.getfield 27, 3) := by decide +kernel
theorem dX3_becomeLike_84 : decode cX3_becomeLike 84 = .ok (.iconst 0, 1) := by decide +kernel
theorem dX3_becomeLike_85 : decode cX3_becomeLike 85 = .ok (.bipush 100, 2) := by decide +kernel
theorem dX3_becomeLike_87 : decode cX3_becomeLike 87 = .ok (.invokestatic 37, 3) := by decide +kernel
theorem dX3_becomeLike_90 : decode cX3_becomeLike 90 = .ok (.aload_n 0, 1) := by decide +kernel
theorem dX3_becomeLike_91 : decode cX3_becomeLike 91 = .ok (.aload_n 1, 1) := by decide +kernel
theorem dX3_becomeLike_92 : decode cX3_becomeLike 92 = .ok (.getfield 30, 3) := by decide +kernel
theorem dX3_becomeLike_95 : decode cX3_becomeLike 95 = .ok (.putfield 30, 3) := by decide +kernel
theorem dX3_becomeLike_98 : decode cX3_becomeLike 98 = .ok (.aload_n 1, 1) := by decide +kernel
theorem dX3_becomeLike_99 : decode cX3_becomeLike 99 = .ok (.getfield 34, 3) := by decide +kernel
theorem dX3_becomeLike_102 : decode cX3_becomeLike 102 = .ok (.iconst 0, 1) := by decide +kernel
theorem dX3_becomeLike_103 : decode cX3_becomeLike 103 = .ok (.aload_n 0, 1) := by decide +kernel
theorem dX3_becomeLike_104 : decode cX3_becomeLike 104 = .ok (.getfield 34, 3) := by decide +kernel
theorem dX3_becomeLike_107 : decode cX3_becomeLike 107 = .ok (.iconst 0, 1) := by decide +kernel
theorem dX3_becomeLike_108 : decode cX3_becomeLike 108 = .ok (.bipush 40, 2) := by decide +kernel
theorem dX3_becomeLike_110 : decode cX3_becomeLike 110 = .ok (.invokestatic 37, 3) := by decide +kernel
theorem dX3_becomeLike_113 : decode cX3_becomeLike 113 = .ok (.return_, 1) := by decide +kernel
theorem dX3_kerningOfPair_0 : decode cX3_kerningOfPair 0 = .ok (.aload_n 0, 1) := by decide +kernel
theorem dX3_kerningOfPair_1 : decode cX3_kerningOfPair 1 = .ok (.getfield 9, 3) := by decide +kernel
theorem dX3_kerningOfPair_4 : decode cX3_kerningOfPair 4 = .ok (.aload_n 1, 1) := by decide +kernel
theorem dX3_kerningOfPair_5 : decode cX3_kerningOfPair 5 = .ok (.iload_n 2, 1) := by decide +kernel
theorem dX3_kerningOfPair_6 : decode cX3_kerningOfPair 6 = .ok (.invokevirtual 43, 3) := by decide +kernel
theorem dX3_kerningOfPair_9 : decode cX3_kerningOfPair 9 = .ok (.iaload, 1) := by decide +kernel
theorem dX3_kerningOfPair_10 : decode cX3_kerningOfPair 10 = .ok (.aload_n 0, 1) := by decide +kernel
theorem dX3_kerningOfPair_11 : decode cX3_kerningOfPair 11 = .ok (.getfield 15, 3) := by decide +kernel
theorem dX3_kerningOfPair_14 : decode cX3_kerningOfPair 14 = .ok (.iload_n 2, 1) := by decide +kernel
theorem dX3_kerningOfPair_15 : decode cX3_kerningOfPair 15 = .ok (.iaload, 1) := by decide +kernel
theorem dX3_kerningOfPair_16 : decode cX3_kerningOfPair 16 = .ok (.iadd, 1) := by decide +kernel
theorem dX3_kerningOfPair_17 : decode cX3_kerningOfPair 17 = .ok (.ireturn, 1) := by decide +kernel
theorem dX3_learnAllBut_0 : decode cX3_learnAllBut 0 = .ok (.aload_n 1, 1) := by decide +kernel
theorem dX3_learnAllBut_1 : decode cX3_learnAllBut 1 = .ok (.getfield 49, 3) := by decide +kernel
theorem dX3_learnAllBut_4 : decode cX3_learnAllBut 4 = .ok (.iconst 0, 1) := by decide +kernel
theorem dX3_learnAllBut_5 : decode cX3_learnAllBut 5 = .ok (.aload_n 0, 1) := by decide +kernel
theorem dX3_learnAllBut_6 : decode cX3_learnAllBut 6 = .ok (.getfield 9, 3) := by decide +kernel
theorem dX3_learnAllBut_9 : decode cX3_learnAllBut 9 = .ok (.iconst 0, 1) := by decide +kernel
theorem dX3_learnAllBut_10 : decode cX3_learnAllBut 10 = .ok (.bipush 16, 2) := by decide +kernel
theorem dX3_learnAllBut_12 : decode cX3_learnAllBut 12 = .ok (.invokestatic 37, 3) := by decide +kernel
theorem dX3_learnAllBut_15 : decode cX3_learnAllBut 15 = .ok (.aload_n 0, 1) := by decide +kernel
theorem dX3_learnAllBut_16 : decode cX3_learnAllBut 16 = .ok (.getfield 15, 3) := by decide +kernel
theorem dX3_learnAllBut_19 : decode cX3_learnAllBut 19 = .ok (.iconst 0, 1) := by decide +kernel
theorem dX3_learnAllBut_20 : decode cX3_learnAllBut 20 = .ok (.invokestatic 52, 3) := by decide +kernel
theorem dX3_learnAllBut_23 : decode cX3_learnAllBut 23 = .ok (.aload_n 0, 1) := by decide +kernel
theorem dX3_learnAllBut_24 : decode cX3_learnAllBut 24 = .ok (.getfield 18, 3) := by decide +kernel
theorem dX3_learnAllBut_27 : decode cX3_learnAllBut 27 = .ok (.iconst 0, 1) := by decide +kernel
theorem dX3_learnAllBut_28 : decode cX3_learnAllBut 28 = .ok (.invokestatic 52, 3) := by decide +kernel
theorem dX3_learnAllBut_31 : decode cX3_learnAllBut 31 = .ok (.aload_n 0, 1) := by decide +kernel
theorem dX3_learnAllBut_32 : decode cX3_learnAllBut 32 = .ok (.getfield 21, 3) := by decide +kernel
theorem dX3_learnAllBut_35 : decode cX3_learnAllBut 35 = .ok (.iconst 0, 1) := by decide +kernel
theorem dX3_learnAllBut_36 : decode cX3_learnAllBut 36 = .ok (.invokestatic 52, 3) := by decide +kernel
theorem dX3_learnAllBut_39 : decode cX3_learnAllBut 39 = .ok (.aload_n 0, 1) := by decide +kernel
theorem dX3_learnAllBut_40 : decode cX3_learnAllBut 40 = .ok (.getfield 24, 3) := by decide +kernel
theorem dX3_learnAllBut_43 : decode cX3_learnAllBut 43 = .ok (.iconst 0, 1) := by decide +kernel
theorem dX3_learnAllBut_44 : decode cX3_learnAllBut 44 = .ok (.invokestatic 52, 3) := by decide +kernel
theorem dX3_learnAllBut_47 : decode cX3_learnAllBut 47 = .ok (.aload_n 0, 1) := by decide +kernel
theorem dX3_learnAllBut_48 : decode cX3_learnAllBut 48 = .ok (.iconst 0, 1) := by decide +kernel
theorem dX3_learnAllBut_49 : decode cX3_learnAllBut 49 = .ok (.putfield 30, 3) := by decide +kernel
theorem dX3_learnAllBut_52 : decode cX3_learnAllBut 52 = .ok (.aload_n 0, 1) := by decide +kernel
theorem dX3_learnAllBut_53 : decode cX3_learnAllBut 53 = .ok (.getfield 34, 3) := by decide +kernel
theorem dX3_learnAllBut_56 : decode cX3_learnAllBut 56 = .ok (.iconst 0, 1) := by decide +kernel
theorem dX3_learnAllBut_57 : decode cX3_learnAllBut 57 = .ok (.invokestatic 52, 3) := by decide +kernel
theorem dX3_learnAllBut_60 : decode cX3_learnAllBut 60 = .ok (.iconst 0, 1) := by decide +kernel
theorem dX3_learnAllBut_61 : decode cX3_learnAllBut 61 = .ok (.istore_n 3, 1) := by decide +kernel
theorem dX3_learnAllBut_62 : decode cX3_learnAllBut 62 = .ok (.iload_n 3, 1) := by decide +kernel
theorem dX3_learnAllBut_63 : decode cX3_learnAllBut 63 = .ok (.aload_n 1, 1) := by decide +kernel
theorem dX3_learnAllBut_64 : decode cX3_learnAllBut 64 = .ok (.getfield 58, 3) := by decide +kernel
theorem dX3_learnAllBut_67 : decode cX3_learnAllBut 67 = .ok (.if_icmp .ge 45, 3) := by decide +kernel
theorem dX3_learnAllBut_70 : decode cX3_learnAllBut 70 = .ok (.iload_n 3, 1) := by decide +kernel
theorem dX3_learnAllBut_71 : decode cX3_learnAllBut 71 = .ok (.iload_n 2, 1) := by decide +kernel
theorem dX3_learnAllBut_72 : decode cX3_learnAllBut 72 = .ok (.if_icmp .eq 34, 3) := by decide +kernel
theorem dX3_learnAllBut_75 : decode cX3_learnAllBut 75 = .ok (.aload_n 0, 1) := by decide +kernel
theorem dX3_learnAllBut_76 : decode cX3_learnAllBut 76 = .ok (.getfield 34, 3) := by decide +kernel
theorem dX3_learnAllBut_79 : decode cX3_learnAllBut 79 = .ok (.iload_n 3, 1) := by decide +kernel
theorem dX3_learnAllBut_80 : decode cX3_learnAllBut 80 = .ok (.aload_n 0, 1) := by decide +kernel
theorem dX3_learnAllBut_81 : decode cX3_learnAllBut 81 = .ok (.aload_n 1, 1) := by decide +kernel
theorem dX3_learnAllBut_82 : decode cX3_learnAllBut 82 = .ok (.aload_n 1, 1) := by decide +kernel
theorem dX3_learnAllBut_83 : decode cX3_learnAllBut 83 = .ok (.getfield 61, 3) := by decide +kernel
theorem dX3_learnAllBut_86 : decode cX3_learnAllBut 86 = .ok (.iload_n 3, 1) := by decide +kernel
theorem dX3_learnAllBut_87 : decode cX3_learnAllBut 87 = .ok (.iaload, 1) := by decide +kernel
theorem dX3_learnAllBut_88 : decode cX3_learnAllBut 88 = .ok (.aload_n 1, 1) := by decide +kernel
theorem dX3_learnAllBut_89 : decode cX3_learnAllBut 89 = .ok (.getfield 64, 3) := by decide +kernel
theorem dX3_learnAllBut_92 : decode cX3_learnAllBut 92 = .ok (.iload_n 3, 1) := by decide +kernel
theorem dX3_learnAllBut_93 : decode cX3_learnAllBut 93 = .ok (.iaload, 1) := by decide +kernel
theorem dX3_learnAllBut_94 : decode cX3_learnAllBut 94 = .ok (.invokevirtual 67, 3) := by decide +kernel
theorem dX3_learnAllBut_97 : decode cX3_learnAllBut 97 = .ok (.ifCond .eq 7, 3) := by decide +kernel
theorem dX3_learnAllBut_100 : decode cX3_learnAllBut 100 = .ok (.iconst 0, 1) := by decide +kernel
theorem dX3_learnAllBut_101 : decode cX3_learnAllBut 101 = .ok (.goto 4, 3) := by decide +kernel
theorem dX3_learnAllBut_104 : decode cX3_learnAllBut 104 = .ok (.iconst 1, 1) := by decide +kernel
theorem dX3_learnAllBut_105 : decode cX3_learnAllBut 105 = .ok (.iastore, 1) := by decide +kernel
theorem dX3_learnAllBut_106 : decode cX3_learnAllBut 106 = .ok (.iinc 3 1, 3) := by decide +kernel
theorem dX3_learnAllBut_109 : decode cX3_learnAllBut 109 = .ok (.goto (-47), 3) := by decide +kernel
theorem dX3_learnAllBut_112 : decode cX3_learnAllBut 112 = .ok (.return_, 1) := by decide +kernel
theorem dX3_learn_0 : decode cX3_learn 0 = .ok (.aload_n 0, 1) := by decide +kernel
theorem dX3_learn_1 : decode cX3_learn 1 = .ok (.aload_n 1, 1) := by decide +kernel
theorem dX3_learn_2 : decode cX3_learn 2 = .ok (.iload_n 2, 1) := by decide +kernel
theorem dX3_learn_3 : decode cX3_learn 3 = .ok (.invokevirtual 71, 3) := by decide +kernel
theorem dX3_learn_6 : decode cX3_learn 6 = .ok (.istore 4, 2) := by decide +kernel
theorem dX3_learn_8 : decode cX3_learn 8 = .ok (.iload 4, 2) := by decide +kernel
theorem dX3_learn_10 : decode cX3_learn 10 = .ok (.iload_n 3, 1) := by decide +kernel
theorem dX3_learn_11 : decode cX3_learn 11 = .ok (.imul, 1) := by decide +kernel
theorem dX3_learn_12 : decode cX3_learn 12 = .ok (.bipush 12, 2) := by decide +kernel
theorem dX3_learn_14 : decode cX3_learn 14 = .ok (.if_icmp .lt 5, 3) := by decide +kernel
theorem dX3_learn_17 : decode cX3_learn 17 = .ok (.iconst 0, 1) := by decide +kernel
theorem dX3_learn_18 : decode cX3_learn 18 = .ok (.ireturn, 1) := by decide +kernel
theorem dX3_learn_19 : decode cX3_learn 19 = .ok (.aload_n 0, 1) := by decide +kernel
theorem dX3_learn_20 : decode cX3_learn 20 = .ok (.getfield 24, 3) := by decide +kernel
theorem dX3_learn_23 : decode cX3_learn 23 = .ok (.iload_n 2, 1) := by decide +kernel
theorem dX3_learn_24 : decode cX3_learn 24 = .ok (.iaload, 1) := by decide +kernel
theorem dX3_learn_25 : decode cX3_learn 25 = .ok (.ifCond .ne 38, 3) := by decide +kernel
theorem dX3_learn_28 : decode cX3_learn 28 = .ok (.aload_n 0, 1) := by decide +kernel
theorem dX3_learn_29 : decode cX3_learn 29 = .ok (.getfield 18, 3) := by decide +kernel
theorem dX3_learn_32 : decode cX3_learn 32 = .ok (.iload_n 2, 1) := by decide +kernel
theorem dX3_learn_33 : decode cX3_learn 33 = .ok (.aload_n 1, 1) := by decide +kernel
theorem dX3_learn_34 : decode cX3_learn 34 = .ok (.getfield 75, 3) := by decide +kernel
theorem dX3_learn_37 : decode cX3_learn 37 = .ok (.iconst 0, 1) := by decide +kernel
theorem dX3_learn_38 : decode cX3_learn 38 = .ok (.iaload, 1) := by decide +kernel
theorem dX3_learn_39 : decode cX3_learn 39 = .ok (.iastore, 1) := by decide +kernel
theorem dX3_learn_40 : decode cX3_learn 40 = .ok (.aload_n 0, 1) := by decide +kernel
theorem dX3_learn_41 : decode cX3_learn 41 = .ok (.getfield 27, 3) := by decide +kernel
theorem dX3_learn_44 : decode cX3_learn 44 = .ok (.aload_n 0, 1) := by decide +kernel
theorem dX3_learn_45 : decode cX3_learn 45 = .ok (.getfield 30, 3) := by decide +kernel
theorem dX3_learn_48 : decode cX3_learn 48 = .ok (.iload_n 2, 1) := by decide +kernel
theorem dX3_learn_49 : decode cX3_learn 49 = .ok (.iastore, 1) := by decide +kernel
theorem dX3_learn_50 : decode cX3_learn 50 = .ok (.aload_n 0, 1) := by decide +kernel
theorem dX3_learn_51 : decode cX3_learn 51 = .ok (.dup, 1) := by decide +kernel
theorem dX3_learn_52 : decode cX3_learn 52 = .ok (.getfield 30, 3) := by decide +kernel
theorem dX3_learn_55 : decode cX3_learn 55 = .ok (.iconst 1, 1) := by decide +kernel
theorem dX3_learn_56 : decode cX3_learn 56 = .ok (.iadd, 1) := by decide +kernel
theorem dX3_learn_57 : decode cX3_learn 57 = .ok (.putfield 30, 3) := by decide +kernel
theorem dX3_learn_60 : decode cX3_learn 60 = .ok (.goto 31, 3) := by decide +kernel
theorem dX3_learn_63 : decode cX3_learn 63 = .ok (.aload_n 0, 1) := by decide +kernel
theorem dX3_learn_64 : decode cX3_learn 64 = .ok (.getfield 21, 3) := by decide +kernel
theorem dX3_learn_67 : decode cX3_learn 67 = .ok (.iload_n 2, 1) := by decide +kernel
theorem dX3_learn_68 : decode cX3_learn 68 = .ok (.iaload, 1) := by decide +kernel
theorem dX3_learn_69 : decode cX3_learn 69 = .ok (.iload_n 3, 1) := by decide +kernel
theorem dX3_learn_70 : decode cX3_learn 70 = .ok (.if_icmp .eq 21, 3) := by decide +kernel
theorem dX3_learn_73 : decode cX3_learn 73 = .ok (.aload_n 0, 1) := by decide +kernel
theorem dX3_learn_74 : decode cX3_learn 74 = .ok (.getfield 18, 3) := by decide +kernel
theorem dX3_learn_77 : decode cX3_learn 77 = .ok (.iload_n 2, 1) := by decide +kernel
theorem dX3_learn_78 : decode cX3_learn 78 = .ok (.iconst 1, 1) := by decide +kernel
theorem dX3_learn_79 : decode cX3_learn 79 = .ok (.aload_n 0, 1) := by decide +kernel
theorem dX3_learn_80 : decode cX3_learn 80 = .ok (.getfield 18, 3) := by decide +kernel
theorem dX3_learn_83 : decode cX3_learn 83 = .ok (.iload_n 2, 1) := by decide +kernel
theorem dX3_learn_84 : decode cX3_learn 84 = .ok (.iaload, 1) := by decide +kernel
theorem dX3_learn_85 : decode cX3_learn 85 = .ok (.iconst 2, 1) := by decide +kernel
theorem dX3_learn_86 : decode cX3_learn 86 = .ok (.idiv, 1) := by decide +kernel
theorem dX3_learn_87 : decode cX3_learn 87 = .ok (.invokestatic 78, 3) := by decide +kernel
theorem dX3_learn_90 : decode cX3_learn 90 = .ok (.iastore, 1) := by decide +kernel
theorem dX3_learn_91 : decode cX3_learn 91 = .ok (.aload_n 0, 1) := by decide +kernel
theorem dX3_learn_92 : decode cX3_learn 92 = .ok (.getfield 21, 3) := by decide +kernel
theorem dX3_learn_95 : decode cX3_learn 95 = .ok (.iload_n 2, 1) := by decide +kernel
theorem dX3_learn_96 : decode cX3_learn 96 = .ok (.iload_n 3, 1) := by decide +kernel
theorem dX3_learn_97 : decode cX3_learn 97 = .ok (.iastore, 1) := by decide +kernel
theorem dX3_learn_98 : decode cX3_learn 98 = .ok (.aload_n 0, 1) := by decide +kernel
theorem dX3_learn_99 : decode cX3_learn 99 = .ok (.getfield 24, 3) := by decide +kernel
theorem dX3_learn_102 : decode cX3_learn 102 = .ok (.iload_n 2, 1) := by decide +kernel
theorem dX3_learn_103 : decode cX3_learn 103 = .ok (.dup2, 1) := by decide +kernel
theorem dX3_learn_104 : decode cX3_learn 104 = .ok (.iaload, 1) := by decide +kernel
theorem dX3_learn_105 : decode cX3_learn 105 = .ok (.iconst 1, 1) := by decide +kernel
theorem dX3_learn_106 : decode cX3_learn 106 = .ok (.iadd, 1) := by decide +kernel
theorem dX3_learn_107 : decode cX3_learn 107 = .ok (.iastore, 1) := by decide +kernel
theorem dX3_learn_108 : decode cX3_learn 108 = .ok (.iload 4, 2) := by decide +kernel
theorem dX3_learn_110 : decode cX3_learn 110 = .ok (.iload_n 3, 1) := by decide +kernel
theorem dX3_learn_111 : decode cX3_learn 111 = .ok (.aload_n 0, 1) := by decide +kernel
theorem dX3_learn_112 : decode cX3_learn 112 = .ok (.getfield 18, 3) := by decide +kernel
theorem dX3_learn_115 : decode cX3_learn 115 = .ok (.iload_n 2, 1) := by decide +kernel
theorem dX3_learn_116 : decode cX3_learn 116 = .ok (.iaload, 1) := by decide +kernel
theorem dX3_learn_117 : decode cX3_learn 117 = .ok (.imul, 1) := by decide +kernel
theorem dX3_learn_118 : decode cX3_learn 118 = .ok (.iadd, 1) := by decide +kernel
theorem dX3_learn_119 : decode cX3_learn 119 = .ok (.istore 5, 2) := by decide +kernel
theorem dX3_learn_121 : decode cX3_learn 121 = .ok (.bipush (-12), 2) := by decide +kernel
theorem dX3_learn_123 : decode cX3_learn 123 = .ok (.bipush 12, 2) := by decide +kernel
theorem dX3_learn_125 : decode cX3_learn 125 = .ok (.iload 5, 2) := by decide +kernel
theorem dX3_learn_127 : decode cX3_learn 127 = .ok (.invokestatic 84, 3) := by decide +kernel
theorem dX3_learn_130 : decode cX3_learn 130 = .ok (.invokestatic 78, 3) := by decide +kernel
theorem dX3_learn_133 : decode cX3_learn 133 = .ok (.istore 5, 2) := by decide +kernel
theorem dX3_learn_135 : decode cX3_learn 135 = .ok (.aload_n 0, 1) := by decide +kernel
theorem dX3_learn_136 : decode cX3_learn 136 = .ok (.getfield 15, 3) := by decide +kernel
theorem dX3_learn_139 : decode cX3_learn 139 = .ok (.iload_n 2, 1) := by decide +kernel
theorem dX3_learn_140 : decode cX3_learn 140 = .ok (.dup2, 1) := by decide +kernel
theorem dX3_learn_141 : decode cX3_learn 141 = .ok (.iaload, 1) := by decide +kernel
theorem dX3_learn_142 : decode cX3_learn 142 = .ok (.iload 5, 2) := by decide +kernel
theorem dX3_learn_144 : decode cX3_learn 144 = .ok (.iload 4, 2) := by decide +kernel
theorem dX3_learn_146 : decode cX3_learn 146 = .ok (.isub, 1) := by decide +kernel
theorem dX3_learn_147 : decode cX3_learn 147 = .ok (.iadd, 1) := by decide +kernel
theorem dX3_learn_148 : decode cX3_learn 148 = .ok (.iastore, 1) := by decide +kernel
theorem dX3_learn_149 : decode cX3_learn 149 = .ok (.aload_n 1, 1) := by decide +kernel
theorem dX3_learn_150 : decode cX3_learn 150 = .ok (.iload_n 2, 1) := by decide +kernel
theorem dX3_learn_151 : decode cX3_learn 151 = .ok (.invokevirtual 43, 3) := by decide +kernel
theorem dX3_learn_154 : decode cX3_learn 154 = .ok (.istore 6, 2) := by decide +kernel
theorem dX3_learn_156 : decode cX3_learn 156 = .ok (.aload_n 0, 1) := by decide +kernel
theorem dX3_learn_157 : decode cX3_learn 157 = .ok (.getfield 9, 3) := by decide +kernel
theorem dX3_learn_160 : decode cX3_learn 160 = .ok (.iload 6, 2) := by decide +kernel
theorem dX3_learn_162 : decode cX3_learn 162 = .ok (.iaload, 1) := by decide +kernel
theorem dX3_learn_163 : decode cX3_learn 163 = .ok (.iload_n 3, 1) := by decide +kernel
theorem dX3_learn_164 : decode cX3_learn 164 = .ok (.imul, 1) := by decide +kernel
theorem dX3_learn_165 : decode cX3_learn 165 = .ok (.bipush 12, 2) := by decide +kernel
theorem dX3_learn_167 : decode cX3_learn 167 = .ok (.if_icmp .ge 7, 3) := by decide +kernel
theorem dX3_learn_170 : decode cX3_learn 170 = .ok (.iconst 1, 1) := by decide +kernel
theorem dX3_learn_171 : decode cX3_learn 171 = .ok (.goto 4, 3) := by decide +kernel
theorem dX3_learn_174 : decode cX3_learn 174 = .ok (.iconst 0, 1) := by decide +kernel
theorem dX3_learn_175 : decode cX3_learn 175 = .ok (.istore 7, 2) := by decide +kernel
theorem dX3_learn_177 : decode cX3_learn 177 = .ok (.iload 7, 2) := by decide +kernel
theorem dX3_learn_179 : decode cX3_learn 179 = .ok (.ifCond .eq 28, 3) := by decide +kernel
theorem dX3_learn_182 : decode cX3_learn 182 = .ok (.aload_n 0, 1) := by decide +kernel
theorem dX3_learn_183 : decode cX3_learn 183 = .ok (.aload_n 1, 1) := by decide +kernel
theorem dX3_learn_184 : decode cX3_learn 184 = .ok (.iload 6, 2) := by decide +kernel
theorem dX3_learn_186 : decode cX3_learn 186 = .ok (.iload_n 3, 1) := by decide +kernel
theorem dX3_learn_187 : decode cX3_learn 187 = .ok (.invokevirtual 87, 3) := by decide +kernel
theorem dX3_learn_190 : decode cX3_learn 190 = .ok (.aload_n 1, 1) := by decide +kernel
theorem dX3_learn_191 : decode cX3_learn 191 = .ok (.getfield 75, 3) := by decide +kernel
theorem dX3_learn_194 : decode cX3_learn 194 = .ok (.iconst 1, 1) := by decide +kernel
theorem dX3_learn_195 : decode cX3_learn 195 = .ok (.iaload, 1) := by decide +kernel
theorem dX3_learn_196 : decode cX3_learn 196 = .ok (.if_icmp .lt 11, 3) := by decide +kernel
theorem dX3_learn_199 : decode cX3_learn 199 = .ok (.aload_n 0, 1) := by decide +kernel
theorem dX3_learn_200 : decode cX3_learn 200 = .ok (.aload_n 1, 1) := by decide +kernel
theorem dX3_learn_201 : decode cX3_learn 201 = .ok (.iload 6, 2) := by decide +kernel
theorem dX3_learn_203 : decode cX3_learn 203 = .ok (.iload_n 3, 1) := by decide +kernel
theorem dX3_learn_204 : decode cX3_learn 204 = .ok (.invokevirtual 91, 3) := by decide +kernel
theorem dX3_learn_207 : decode cX3_learn 207 = .ok (.iconst 1, 1) := by decide +kernel
theorem dX3_learn_208 : decode cX3_learn 208 = .ok (.ireturn, 1) := by decide +kernel
theorem dX3_moveShapes_0 : decode cX3_moveShapes 0 = .ok (.aload_n 0, 1) := by decide +kernel
theorem dX3_moveShapes_1 : decode cX3_moveShapes 1 = .ok (.getfield 9, 3) := by decide +kernel
theorem dX3_moveShapes_4 : decode cX3_moveShapes 4 = .ok (.iload_n 2, 1) := by decide +kernel
theorem dX3_moveShapes_5 : decode cX3_moveShapes 5 = .ok (.dup2, 1) := by decide +kernel
theorem dX3_moveShapes_6 : decode cX3_moveShapes 6 = .ok (.iaload, 1) := by decide +kernel
theorem dX3_moveShapes_7 : decode cX3_moveShapes 7 = .ok (.iload_n 3, 1) := by decide +kernel
theorem dX3_moveShapes_8 : decode cX3_moveShapes 8 = .ok (.iadd, 1) := by decide +kernel
theorem dX3_moveShapes_9 : decode cX3_moveShapes 9 = .ok (.iastore, 1) := by decide +kernel
theorem dX3_moveShapes_10 : decode cX3_moveShapes 10 = .ok (.iconst 0, 1) := by decide +kernel
theorem dX3_moveShapes_11 : decode cX3_moveShapes 11 = .ok (.istore 4, 2) := by decide +kernel
theorem dX3_moveShapes_13 : decode cX3_moveShapes 13 = .ok (.iload 4, 2) := by decide +kernel
theorem dX3_moveShapes_15 : decode cX3_moveShapes 15 = .ok (.aload_n 0, 1) := by decide +kernel
theorem dX3_moveShapes_16 : decode cX3_moveShapes 16 = .ok (.getfield 30, 3) := by decide +kernel
theorem dX3_moveShapes_19 : decode cX3_moveShapes 19 = .ok (.if_icmp .ge 40, 3) := by decide +kernel
theorem dX3_moveShapes_22 : decode cX3_moveShapes 22 = .ok (.aload_n 1, 1) := by decide +kernel
theorem dX3_moveShapes_23 : decode cX3_moveShapes 23 = .ok (.aload_n 0, 1) := by decide +kernel
theorem dX3_moveShapes_24 : decode cX3_moveShapes 24 = .ok (.getfield 27, 3) := by decide +kernel
theorem dX3_moveShapes_27 : decode cX3_moveShapes 27 = .ok (.iload 4, 2) := by decide +kernel
theorem dX3_moveShapes_29 : decode cX3_moveShapes 29 = .ok (.iaload, 1) := by decide +kernel
theorem dX3_moveShapes_30 : decode cX3_moveShapes 30 = .ok (.invokevirtual 43, 3) := by decide +kernel
theorem dX3_moveShapes_33 : decode cX3_moveShapes 33 = .ok (.iload_n 2, 1) := by decide +kernel
theorem dX3_moveShapes_34 : decode cX3_moveShapes 34 = .ok (.if_icmp .ne 19, 3) := by decide +kernel
theorem dX3_moveShapes_37 : decode cX3_moveShapes 37 = .ok (.aload_n 0, 1) := by decide +kernel
theorem dX3_moveShapes_38 : decode cX3_moveShapes 38 = .ok (.getfield 15, 3) := by decide +kernel
theorem dX3_moveShapes_41 : decode cX3_moveShapes 41 = .ok (.aload_n 0, 1) := by decide +kernel
theorem dX3_moveShapes_42 : decode cX3_moveShapes 42 = .ok (.getfield 27, 3) := by decide +kernel
theorem dX3_moveShapes_45 : decode cX3_moveShapes 45 = .ok (.iload 4, 2) := by decide +kernel
theorem dX3_moveShapes_47 : decode cX3_moveShapes 47 = .ok (.iaload, 1) := by decide +kernel
theorem dX3_moveShapes_48 : decode cX3_moveShapes 48 = .ok (.dup2, 1) := by decide +kernel
theorem dX3_moveShapes_49 : decode cX3_moveShapes 49 = .ok (.iaload, 1) := by decide +kernel
theorem dX3_moveShapes_50 : decode cX3_moveShapes 50 = .ok (.iload_n 3, 1) := by decide +kernel
theorem dX3_moveShapes_51 : decode cX3_moveShapes 51 = .ok (.isub, 1) := by decide +kernel
theorem dX3_moveShapes_52 : decode cX3_moveShapes 52 = .ok (.iastore, 1) := by decide +kernel
theorem dX3_moveShapes_53 : decode cX3_moveShapes 53 = .ok (.iinc 4 1, 3) := by decide +kernel
theorem dX3_moveShapes_56 : decode cX3_moveShapes 56 = .ok (.goto (-43), 3) := by decide +kernel
theorem dX3_moveShapes_59 : decode cX3_moveShapes 59 = .ok (.return_, 1) := by decide +kernel
theorem dX3_pairsThatAgree_0 : decode cX3_pairsThatAgree 0 = .ok (.iconst 0, 1) := by decide +kernel
theorem dX3_pairsThatAgree_1 : decode cX3_pairsThatAgree 1 = .ok (.istore 4, 2) := by decide +kernel
theorem dX3_pairsThatAgree_3 : decode cX3_pairsThatAgree 3 = .ok (.iconst 0, 1) := by decide +kernel
theorem dX3_pairsThatAgree_4 : decode cX3_pairsThatAgree 4 = .ok (.istore 5, 2) := by decide +kernel
theorem dX3_pairsThatAgree_6 : decode cX3_pairsThatAgree 6 = .ok (.iload 5, 2) := by decide +kernel
theorem dX3_pairsThatAgree_8 : decode cX3_pairsThatAgree 8 = .ok (.aload_n 0, 1) := by decide +kernel
theorem dX3_pairsThatAgree_9 : decode cX3_pairsThatAgree 9 = .ok (.getfield 30, 3) := by decide +kernel
theorem dX3_pairsThatAgree_12 : decode cX3_pairsThatAgree 12 = .ok (.if_icmp .ge 43, 3) := by decide +kernel
theorem dX3_pairsThatAgree_15 : decode cX3_pairsThatAgree 15 = .ok (.aload_n 0, 1) := by decide +kernel
theorem dX3_pairsThatAgree_16 : decode cX3_pairsThatAgree 16 = .ok (.getfield 27, 3) := by decide +kernel
theorem dX3_pairsThatAgree_19 : decode cX3_pairsThatAgree 19 = .ok (.iload 5, 2) := by decide +kernel
theorem dX3_pairsThatAgree_21 : decode cX3_pairsThatAgree 21 = .ok (.iaload, 1) := by decide +kernel
theorem dX3_pairsThatAgree_22 : decode cX3_pairsThatAgree 22 = .ok (.istore 6, 2) := by decide +kernel
theorem dX3_pairsThatAgree_24 : decode cX3_pairsThatAgree 24 = .ok (.aload_n 0, 1) := by decide +kernel
theorem dX3_pairsThatAgree_25 : decode cX3_pairsThatAgree 25 = .ok (.getfield 15, 3) := by decide +kernel
theorem dX3_pairsThatAgree_28 : decode cX3_pairsThatAgree 28 = .ok (.iload 6, 2) := by decide +kernel
theorem dX3_pairsThatAgree_30 : decode cX3_pairsThatAgree 30 = .ok (.iaload, 1) := by decide +kernel
theorem dX3_pairsThatAgree_31 : decode cX3_pairsThatAgree 31 = .ok (.iload_n 3, 1) := by decide +kernel
theorem dX3_pairsThatAgree_32 : decode cX3_pairsThatAgree 32 = .ok (.imul, 1) := by decide +kernel
theorem dX3_pairsThatAgree_33 : decode cX3_pairsThatAgree 33 = .ok (.ifCond .le 16, 3) := by decide +kernel
theorem dX3_pairsThatAgree_36 : decode cX3_pairsThatAgree 36 = .ok (.aload_n 1, 1) := by decide +kernel
theorem dX3_pairsThatAgree_37 : decode cX3_pairsThatAgree 37 = .ok (.iload 6, 2) := by decide +kernel
theorem dX3_pairsThatAgree_39 : decode cX3_pairsThatAgree 39 = .ok (.invokevirtual 43, 3) := by decide +kernel
theorem dX3_pairsThatAgree_42 : decode cX3_pairsThatAgree 42 = .ok (.iload_n 2, 1) := by decide +kernel
theorem dX3_pairsThatAgree_43 : decode cX3_pairsThatAgree 43 = .ok (.if_icmp .ne 6, 3) := by decide +kernel
theorem dX3_pairsThatAgree_46 : decode cX3_pairsThatAgree 46 = .ok (.iinc 4 1, 3) := by decide +kernel
theorem dX3_pairsThatAgree_49 : decode cX3_pairsThatAgree 49 = .ok (.iinc 5 1, 3) := by decide +kernel
theorem dX3_pairsThatAgree_52 : decode cX3_pairsThatAgree 52 = .ok (.goto (-46), 3) := by decide +kernel
theorem dX3_pairsThatAgree_55 : decode cX3_pairsThatAgree 55 = .ok (.iload 4, 2) := by decide +kernel
theorem dX3_pairsThatAgree_57 : decode cX3_pairsThatAgree 57 = .ok (.ireturn, 1) := by decide +kernel
theorem dX4_init_0 : decode cX4_init 0 = .ok (.aload_n 0, 1) := by decide +kernel
theorem dX4_init_1 : decode cX4_init 1 = .ok (.invokespecial 1, 3) := by decide +kernel
theorem dX4_init_4 : decode cX4_init 4 = .ok (.aload_n 0, 1) := by decide +kernel
theorem dX4_init_5 : decode cX4_init 5 = .ok (.new 7, 3) := by decide +kernel
theorem dX4_init_8 : decode cX4_init 8 = .ok (.dup, 1) := by decide +kernel
theorem dX4_init_9 : decode cX4_init 9 = .ok (.invokespecial 9, 3) := by decide +kernel
theorem dX4_init_12 : decode cX4_init 12 = .ok (.putfield 10, 3) := by decide +kernel
theorem dX4_init_15 : decode cX4_init 15 = .ok (.aload_n 0, 1) := by decide +kernel
theorem dX4_init_16 : decode cX4_init 16 = .ok (.bipush 6, 2) := by decide +kernel
theorem dX4_init_18 : decode cX4_init 18 = .ok (.anewarray 7, 3) := by decide +kernel
theorem dX4_init_21 : decode cX4_init 21 = .ok (.putfield 16, 3) := by decide +kernel
theorem dX4_init_24 : decode cX4_init 24 = .ok (.aload_n 0, 1) := by decide +kernel
theorem dX4_init_25 : decode cX4_init 25 = .ok (.iconst 0, 1) := by decide +kernel
theorem dX4_init_26 : decode cX4_init 26 = .ok (.putfield 20, 3) := by decide +kernel
theorem dX4_init_29 : decode cX4_init 29 = .ok (.aload_n 0, 1) := by decide +kernel
theorem dX4_init_30 : decode cX4_init 30 = .ok (.iconst 2, 1) := by decide +kernel
theorem dX4_init_31 : decode cX4_init 31 = .ok (.anewarray 7, 3) := by decide +kernel
theorem dX4_init_34 : decode cX4_init 34 = .ok (.putfield 24, 3) := by decide +kernel
theorem dX4_init_37 : decode cX4_init 37 = .ok (.aload_n 0, 1) := by decide +kernel
theorem dX4_init_38 : decode cX4_init 38 = .ok (.iconst 2, 1) := by decide +kernel
theorem dX4_init_39 : decode cX4_init 39 = .ok (.newarray .boolean, 2) := by decide +kernel
theorem dX4_init_41 : decode cX4_init 41 = .ok (.putfield 27, 3) := by decide +kernel
theorem dX4_init_44 : decode cX4_init 44 = .ok (.aload_n 0, 1) := by decide +kernel
theorem dX4_init_45 : decode cX4_init 45 = .ok (.new 31, 3) := by decide +kernel
theorem dX4_init_48 : decode cX4_init 48 = .ok (.dup, 1) := by decide +kernel
theorem dX4_init_49 : decode cX4_init 49 = .ok (.invokespecial 33, 3) := by decide +kernel
theorem dX4_init_52 : decode cX4_init 52 = .ok (.putfield 34, 3) := by decide +kernel
theorem dX4_init_55 : decode cX4_init 55 = .ok (.aload_n 0, 1) := by decide +kernel
theorem dX4_init_56 : decode cX4_init 56 = .ok (.new 38, 3) := by decide +kernel
theorem dX4_init_59 : decode cX4_init 59 = .ok (.dup, 1) := by decide +kernel
theorem dX4_init_60 : decode cX4_init 60 = .ok (.invokespecial 40, 3) := by decide +kernel
theorem dX4_init_63 : decode cX4_init 63 = .ok (.putfield 41, 3) := by decide +kernel
theorem dX4_init_66 : decode cX4_init 66 = .ok (.aload_n 0, 1) := by decide +kernel
theorem dX4_init_67 : decode cX4_init 67 = .ok (.bipush 40, 2) := by decide +kernel
theorem dX4_init_69 : decode cX4_init 69 = .ok (.newarray .int, 2) := by decide +kernel
theorem dX4_init_71 : decode cX4_init 71 = .ok (.putfield 45, 3) := by decide +kernel
theorem dX4_init_74 : decode cX4_init 74 = .ok (.aload_n 0, 1) := by decide +kernel
theorem dX4_init_75 : decode cX4_init 75 = .ok (.new 49, 3) := by decide +kernel
theorem dX4_init_78 : decode cX4_init 78 = .ok (.dup, 1) := by decide +kernel
theorem dX4_init_79 : decode cX4_init 79 = .ok (.invokespecial 51, 3) := by decide +kernel
theorem dX4_init_82 : decode cX4_init 82 = .ok (.putfield 52, 3) := by decide +kernel
theorem dX4_init_85 : decode cX4_init 85 = .ok (.iconst 0, 1) := by decide +kernel
theorem dX4_init_86 : decode cX4_init 86 = .ok (.istore_n 1, 1) := by decide +kernel
theorem dX4_init_87 : decode cX4_init 87 = .ok (.iload_n 1, 1) := by decide +kernel
theorem dX4_init_88 : decode cX4_init 88 = .ok (.bipush 6, 2) := by decide +kernel
theorem dX4_init_90 : decode cX4_init 90 = .ok (.if_icmp .ge 22, 3) := by decide +kernel
theorem dX4_init_93 : decode cX4_init 93 = .ok (.aload_n 0, 1) := by decide +kernel
theorem dX4_init_94 : decode cX4_init 94 = .ok (.getfield 16, 3) := by decide +kernel
theorem dX4_init_97 : decode cX4_init 97 = .ok (.iload_n 1, 1) := by decide +kernel
theorem dX4_init_98 : decode cX4_init 98 = .ok (.new 7, 3) := by decide +kernel
theorem dX4_init_101 : decode cX4_init 101 = .ok (.dup, 1) := by decide +kernel
theorem dX4_init_102 : decode cX4_init 102 = .ok (.invokespecial 9, 3) := by decide +kernel
theorem dX4_init_105 : decode cX4_init 105 = .ok (.aastore, 1) := by decide +kernel
theorem dX4_init_106 : decode cX4_init 106 = .ok (.iinc 1 1, 3) := by decide +kernel
theorem dX4_init_109 : decode cX4_init 109 = .ok (.goto (-22), 3) := by decide +kernel
theorem dX4_init_112 : decode cX4_init 112 = .ok (.iconst 0, 1) := by decide +kernel
theorem dX4_init_113 : decode cX4_init 113 = .ok (.istore_n 1, 1) := by decide +kernel
theorem dX4_init_114 : decode cX4_init 114 = .ok (.iload_n 1, 1) := by decide +kernel
theorem dX4_init_115 : decode cX4_init 115 = .ok (.iconst 2, 1) := by decide +kernel
theorem dX4_init_116 : decode cX4_init 116 = .ok (.if_icmp .ge 22, 3) := by decide +kernel
theorem dX4_init_119 : decode cX4_init 119 = .ok (.aload_n 0, 1) := by decide +kernel
theorem dX4_init_120 : decode cX4_init 120 = .ok (.getfield 24, 3) := by decide +kernel
theorem dX4_init_123 : decode cX4_init 123 = .ok (.iload_n 1, 1) := by decide +kernel
theorem dX4_init_124 : decode cX4_init 124 = .ok (.new 7, 3) := by decide +kernel
theorem dX4_init_127 : decode cX4_init 127 = .ok (.dup, 1) := by decide +kernel
theorem dX4_init_128 : decode cX4_init 128 = .ok (.invokespecial 9, 3) := by decide +kernel
theorem dX4_init_131 : decode cX4_init 131 = .ok (.aastore, 1) := by decide +kernel
theorem dX4_init_132 : decode cX4_init 132 = .ok (.iinc 1 1, 3) := by decide +kernel
theorem dX4_init_135 : decode cX4_init 135 = .ok (.goto (-21), 3) := by decide +kernel
theorem dX4_init_138 : decode cX4_init 138 = .ok (.return_, 1) := by decide +kernel
theorem dX4_width_0 : decode cX4_width 0 = .ok (.iload_n 1, 1) := by decide +kernel
theorem dX4_width_1 : decode cX4_width 1 = .ok (.invokestatic 56, 3) := by decide +kernel
theorem dX4_width_4 : decode cX4_width 4 = .ok (.iload_n 2, 1) := by decide +kernel
theorem dX4_width_5 : decode cX4_width 5 = .ok (.bipush 13, 2) := by decide +kernel
theorem dX4_width_7 : decode cX4_width 7 = .ok (.bipush 30, 2) := by decide +kernel
theorem dX4_width_9 : decode cX4_width 9 = .ok (.invokestatic 60, 3) := by decide +kernel
theorem dX4_width_12 : decode cX4_width 12 = .ok (.aload_n 0, 1) := by decide +kernel
theorem dX4_width_13 : decode cX4_width 13 = .ok (.invokevirtual 64, 3) := by decide +kernel
theorem dX4_width_16 : decode cX4_width 16 = .ok (.aload_n 0, 1) := by decide +kernel
theorem dX4_width_17 : decode cX4_width 17 = .ok (.getfield 10, 3) := by decide +kernel
theorem dX4_width_20 : decode cX4_width 20 = .ok (.getfield 67, 3) := by decide +kernel
theorem dX4_width_23 : decode cX4_width 23 = .ok (.iload_n 1, 1) := by decide +kernel
theorem dX4_width_24 : decode cX4_width 24 = .ok (.iaload, 1) := by decide +kernel
theorem dX4_width_25 : decode cX4_width 25 = .ok (.istore_n 3, 1) := by decide +kernel
theorem dX4_width_26 : decode cX4_width 26 = .ok (.aload_n 0, 1) := by decide +kernel
theorem dX4_width_27 : decode cX4_width 27 = .ok (.getfield 10, 3) := by decide +kernel
theorem dX4_width_30 : decode cX4_width 30 = .ok (.getfield 67, 3) := by decide +kernel
theorem dX4_width_33 : decode cX4_width 33 = .ok (.iload_n 1, 1) := by decide +kernel
theorem dX4_width_34 : decode cX4_width 34 = .ok (.iload_n 2, 1) := by decide +kernel
theorem dX4_width_35 : decode cX4_width 35 = .ok (.iastore, 1) := by decide +kernel
theorem dX4_width_36 : decode cX4_width 36 = .ok (.iload_n 3, 1) := by decide +kernel
theorem dX4_width_37 : decode cX4_width 37 = .ok (.ireturn, 1) := by decide +kernel
theorem dX4_shape_0 : decode cX4_shape 0 = .ok (.iload_n 1, 1) := by decide +kernel
theorem dX4_shape_1 : decode cX4_shape 1 = .ok (.invokestatic 56, 3) := by decide +kernel
theorem dX4_shape_4 : decode cX4_shape 4 = .ok (.iload_n 2, 1) := by decide +kernel
theorem dX4_shape_5 : decode cX4_shape 5 = .ok (.iconst 0, 1) := by decide +kernel
theorem dX4_shape_6 : decode cX4_shape 6 = .ok (.iconst 3, 1) := by decide +kernel
theorem dX4_shape_7 : decode cX4_shape 7 = .ok (.invokestatic 60, 3) := by decide +kernel
theorem dX4_shape_10 : decode cX4_shape 10 = .ok (.iload_n 3, 1) := by decide +kernel
theorem dX4_shape_11 : decode cX4_shape 11 = .ok (.iconst 0, 1) := by decide +kernel
theorem dX4_shape_12 : decode cX4_shape 12 = .ok (.iconst 3, 1) := by decide +kernel
theorem dX4_shape_13 : decode cX4_shape 13 = .ok (.invokestatic 60, 3) := by decide +kernel
theorem dX4_shape_16 : decode cX4_shape 16 = .ok (.aload_n 0, 1) := by decide +kernel
theorem dX4_shape_17 : decode cX4_shape 17 = .ok (.invokevirtual 64, 3) := by decide +kernel
theorem dX4_shape_20 : decode cX4_shape 20 = .ok (.iconst 4, 1) := by decide +kernel
theorem dX4_shape_21 : decode cX4_shape 21 = .ok (.aload_n 0, 1) := by decide +kernel
theorem dX4_shape_22 : decode cX4_shape 22 = .ok (.getfield 10, 3) := by decide +kernel
theorem dX4_shape_25 : decode cX4_shape 25 = .ok (.getfield 70, 3) := by decide +kernel
theorem dX4_shape_28 : decode cX4_shape 28 = .ok (.iload_n 1, 1) := by decide +kernel
theorem dX4_shape_29 : decode cX4_shape 29 = .ok (.iaload, 1) := by decide +kernel
theorem dX4_shape_30 : decode cX4_shape 30 = .ok (.imul, 1) := by decide +kernel
theorem dX4_shape_31 : decode cX4_shape 31 = .ok (.aload_n 0, 1) := by decide +kernel
theorem dX4_shape_32 : decode cX4_shape 32 = .ok (.getfield 10, 3) := by decide +kernel
theorem dX4_shape_35 : decode cX4_shape 35 = .ok (.getfield 73, 3) := by decide +kernel
theorem dX4_shape_38 : decode cX4_shape 38 = .ok (.iload_n 1, 1) := by decide +kernel
theorem dX4_shape_39 : decode cX4_shape 39 = .ok (.iaload, 1) := by decide +kernel
theorem dX4_shape_40 : decode cX4_shape 40 = .ok (.iadd, 1) := by decide +kernel
theorem dX4_shape_41 : decode cX4_shape 41 = .ok (.istore 4, 2) := by decide +kernel
theorem dX4_shape_43 : decode cX4_shape 43 = .ok (.aload_n 0, 1) := by decide +kernel
theorem dX4_shape_44 : decode cX4_shape 44 = .ok (.getfield 10, 3) := by decide +kernel
theorem dX4_shape_47 : decode cX4_shape 47 = .ok (.getfield 70, 3) := by decide +kernel
theorem dX4_shape_50 : decode cX4_shape 50 = .ok (.iload_n 1, 1) := by decide +kernel
theorem dX4_shape_51 : decode cX4_shape 51 = .ok (.iload_n 2, 1) := by decide +kernel
theorem dX4_shape_52 : decode cX4_shape 52 = .ok (.iastore, 1) := by decide +kernel
theorem dX4_shape_53 : decode cX4_shape 53 = .ok (.aload_n 0, 1) := by decide +kernel
theorem dX4_shape_54 : decode cX4_shape 54 = .ok (.getfield 10, 3) := by decide +kernel
theorem dX4_shape_57 : decode cX4_shape 57 = .ok (.getfield 73, 3) := by decide +kernel
theorem dX4_shape_60 : decode cX4_shape 60 = .ok (.iload_n 1, 1) := by decide +kernel
theorem dX4_shape_61 : decode cX4_shape 61 = .ok (.iload_n 3, 1) := by decide +kernel
theorem dX4_shape_62 : decode cX4_shape 62 = .ok (.iastore, 1) := by decide +kernel
theorem dX4_shape_63 : decode cX4_shape 63 = .ok (.aload_n 0, 1) := by decide +kernel
theorem dX4_shape_64 : decode cX4_shape 64 = .ok (.getfield 10, 3) := by decide +kernel
theorem dX4_shape_67 : decode cX4_shape 67 = .ok (.invokevirtual 76, 3) := by decide +kernel
theorem dX4_shape_70 : decode cX4_shape 70 = .ok (.iload 4, 2) := by decide +kernel
theorem dX4_shape_72 : decode cX4_shape 72 = .ok (.ireturn, 1) := by decide +kernel
theorem dX4_base_0 : decode cX4_base 0 = .ok (.iload_n 1, 1) := by decide +kernel
theorem dX4_base_1 : decode cX4_base 1 = .ok (.iconst 4, 1) := by decide +kernel
theorem dX4_base_2 : decode cX4_base 2 = .ok (.invokestatic 79, 3) := by decide +kernel
theorem dX4_base_5 : decode cX4_base 5 = .ok (.iload_n 2, 1) := by decide +kernel
theorem dX4_base_6 : decode cX4_base 6 = .ok (.iconst 4, 1) := by decide +kernel
theorem dX4_base_7 : decode cX4_base 7 = .ok (.invokestatic 79, 3) := by decide +kernel
theorem dX4_base_10 : decode cX4_base 10 = .ok (.iload_n 3, 1) := by decide +kernel
theorem dX4_base_11 : decode cX4_base 11 = .ok (.bipush (-12), 2) := by decide +kernel
theorem dX4_base_13 : decode cX4_base 13 = .ok (.bipush 12, 2) := by decide +kernel
theorem dX4_base_15 : decode cX4_base 15 = .ok (.invokestatic 60, 3) := by decide +kernel
theorem dX4_base_18 : decode cX4_base 18 = .ok (.aload_n 0, 1) := by decide +kernel
theorem dX4_base_19 : decode cX4_base 19 = .ok (.invokevirtual 64, 3) := by decide +kernel
theorem dX4_base_22 : decode cX4_base 22 = .ok (.iconst 4, 1) := by decide +kernel
theorem dX4_base_23 : decode cX4_base 23 = .ok (.iload_n 1, 1) := by decide +kernel
theorem dX4_base_24 : decode cX4_base 24 = .ok (.imul, 1) := by decide +kernel
theorem dX4_base_25 : decode cX4_base 25 = .ok (.iload_n 2, 1) := by decide +kernel
theorem dX4_base_26 : decode cX4_base 26 = .ok (.iadd, 1) := by decide +kernel
theorem dX4_base_27 : decode cX4_base 27 = .ok (.istore 4, 2) := by decide +kernel
theorem dX4_base_29 : decode cX4_base 29 = .ok (.aload_n 0, 1) := by decide +kernel
theorem dX4_base_30 : decode cX4_base 30 = .ok (.getfield 10, 3) := by decide +kernel
theorem dX4_base_33 : decode cX4_base 33 = .ok (.getfield 83, 3) := by decide +kernel
theorem dX4_base_36 : decode cX4_base 36 = .ok (.iload 4, 2) := by decide +kernel
theorem dX4_base_38 : decode cX4_base 38 = .ok (.iaload, 1) := by decide +kernel
theorem dX4_base_39 : decode cX4_base 39 = .ok (.istore 5, 2) := by decide +kernel
theorem dX4_base_41 : decode cX4_base 41 = .ok (.aload_n 0, 1) := by decide +kernel
theorem dX4_base_42 : decode cX4_base 42 = .ok (.getfield 10, 3) := by decide +kernel
theorem dX4_base_45 : decode cX4_base 45 = .ok (.getfield 83, 3) := by decide +kernel
theorem dX4_base_48 : decode cX4_base 48 = .ok (.iload 4, 2) := by decide +kernel
theorem dX4_base_50 : decode cX4_base 50 = .ok (.iload_n 3, 1) := by decide +kernel
theorem dX4_base_51 : decode cX4_base 51 = .ok (.iastore, 1) := by decide +kernel
theorem dX4_base_52 : decode cX4_base 52 = .ok (.aload_n 0, 1) := by decide +kernel
theorem dX4_base_53 : decode cX4_base 53 = .ok (.getfield 10, 3) := by decide +kernel
theorem dX4_base_56 : decode cX4_base 56 = .ok (.invokevirtual 76, 3) := by decide +kernel
theorem dX4_base_59 : decode cX4_base 59 = .ok (.iload 5, 2) := by decide +kernel
theorem dX4_base_61 : decode cX4_base 61 = .ok (.bipush 100, 2) := by decide +kernel
theorem dX4_base_63 : decode cX4_base 63 = .ok (.iadd, 1) := by decide +kernel
theorem dX4_base_64 : decode cX4_base 64 = .ok (.ireturn, 1) := by decide +kernel
theorem dX4_set_0 : decode cX4_set 0 = .ok (.iload_n 1, 1) := by decide +kernel
theorem dX4_set_1 : decode cX4_set 1 = .ok (.iconst 4, 1) := by decide +kernel
theorem dX4_set_2 : decode cX4_set 2 = .ok (.invokestatic 79, 3) := by decide +kernel
theorem dX4_set_5 : decode cX4_set 5 = .ok (.iload_n 2, 1) := by decide +kernel
theorem dX4_set_6 : decode cX4_set 6 = .ok (.getstatic 86, 3) := by decide +kernel
theorem dX4_set_9 : decode cX4_set 9 = .ok (.iload_n 1, 1) := by decide +kernel
theorem dX4_set_10 : decode cX4_set 10 = .ok (.iaload, 1) := by decide +kernel
theorem dX4_set_11 : decode cX4_set 11 = .ok (.getstatic 89, 3) := by decide +kernel
theorem dX4_set_14 : decode cX4_set 14 = .ok (.iload_n 1, 1) := by decide +kernel
theorem dX4_set_15 : decode cX4_set 15 = .ok (.iaload, 1) := by decide +kernel
theorem dX4_set_16 : decode cX4_set 16 = .ok (.invokestatic 60, 3) := by decide +kernel
theorem dX4_set_19 : decode cX4_set 19 = .ok (.aload_n 0, 1) := by decide +kernel
theorem dX4_set_20 : decode cX4_set 20 = .ok (.invokevirtual 64, 3) := by decide +kernel
theorem dX4_set_23 : decode cX4_set 23 = .ok (.aload_n 0, 1) := by decide +kernel
theorem dX4_set_24 : decode cX4_set 24 = .ok (.getfield 10, 3) := by decide +kernel
theorem dX4_set_27 : decode cX4_set 27 = .ok (.getfield 92, 3) := by decide +kernel
theorem dX4_set_30 : decode cX4_set 30 = .ok (.iload_n 1, 1) := by decide +kernel
theorem dX4_set_31 : decode cX4_set 31 = .ok (.iaload, 1) := by decide +kernel
theorem dX4_set_32 : decode cX4_set 32 = .ok (.istore_n 3, 1) := by decide +kernel
theorem dX4_set_33 : decode cX4_set 33 = .ok (.aload_n 0, 1) := by decide +kernel
theorem dX4_set_34 : decode cX4_set 34 = .ok (.getfield 10, 3) := by decide +kernel
theorem dX4_set_37 : decode cX4_set 37 = .ok (.getfield 92, 3) := by decide +kernel
theorem dX4_set_40 : decode cX4_set 40 = .ok (.iload_n 1, 1) := by decide +kernel
theorem dX4_set_41 : decode cX4_set 41 = .ok (.iload_n 2, 1) := by decide +kernel
theorem dX4_set_42 : decode cX4_set 42 = .ok (.iastore, 1) := by decide +kernel
theorem dX4_set_43 : decode cX4_set 43 = .ok (.iload_n 1, 1) := by decide +kernel
theorem dX4_set_44 : decode cX4_set 44 = .ok (.ifCond .eq 8, 3) := by decide +kernel
theorem dX4_set_47 : decode cX4_set 47 = .ok (.iload_n 1, 1) := by decide +kernel
theorem dX4_set_48 : decode cX4_set 48 = .ok (.iconst 1, 1) := by decide +kernel
theorem dX4_set_49 : decode cX4_set 49 = .ok (.if_icmp .ne 10, 3) := by decide +kernel
theorem dX4_set_52 : decode cX4_set 52 = .ok (.aload_n 0, 1) := by decide +kernel
theorem dX4_set_53 : decode cX4_set 53 = .ok (.getfield 10, 3) := by decide +kernel
theorem dX4_set_56 : decode cX4_set 56 = .ok (.invokevirtual 76, 3) := by decide +kernel
theorem dX4_set_59 : decode cX4_set 59 = .ok (.iload_n 3, 1) := by decide +kernel
theorem dX4_set_60 : decode cX4_set 60 = .ok (.ireturn, 1) := by decide +kernel
theorem dX4_circle_0 : decode cX4_circle 0 = .ok (.iload_n 1, 1) := by decide +kernel
theorem dX4_circle_1 : decode cX4_circle 1 = .ok (.invokestatic 56, 3) := by decide +kernel
theorem dX4_circle_4 : decode cX4_circle 4 = .ok (.iload_n 2, 1) := by decide +kernel
theorem dX4_circle_5 : decode cX4_circle 5 = .ok (.invokestatic 56, 3) := by decide +kernel
theorem dX4_circle_8 : decode cX4_circle 8 = .ok (.iload_n 3, 1) := by decide +kernel
theorem dX4_circle_9 : decode cX4_circle 9 = .ok (.invokestatic 95, 3) := by decide +kernel
theorem dX4_circle_12 : decode cX4_circle 12 = .ok (.aload_n 0, 1) := by decide +kernel
theorem dX4_circle_13 : decode cX4_circle 13 = .ok (.bipush 10, 2) := by decide +kernel
theorem dX4_circle_15 : decode cX4_circle 15 = .ok (.iload_n 1, 1) := by decide +kernel
theorem dX4_circle_16 : decode cX4_circle 16 = .ok (.imul, 1) := by decide +kernel
theorem dX4_circle_17 : decode cX4_circle 17 = .ok (.iload_n 2, 1) := by decide +kernel
theorem dX4_circle_18 : decode cX4_circle 18 = .ok (.iadd, 1) := by decide +kernel
theorem dX4_circle_19 : decode cX4_circle 19 = .ok (.iload_n 3, 1) := by decide +kernel
theorem dX4_circle_20 : decode cX4_circle 20 = .ok (.invokevirtual 98, 3) := by decide +kernel
theorem dX4_circle_23 : decode cX4_circle 23 = .ok (.ireturn, 1) := by decide +kernel
theorem dX4_forget_0 : decode cX4_forget 0 = .ok (.iload_n 1, 1) := by decide +kernel
theorem dX4_forget_1 : decode cX4_forget 1 = .ok (.aload_n 0, 1) := by decide +kernel
theorem dX4_forget_2 : decode cX4_forget 2 = .ok (.getfield 10, 3) := by decide +kernel
theorem dX4_forget_5 : decode cX4_forget 5 = .ok (.getfield 102, 3) := by decide +kernel
theorem dX4_forget_8 : decode cX4_forget 8 = .ok (.invokestatic 79, 3) := by decide +kernel
theorem dX4_forget_11 : decode cX4_forget 11 = .ok (.aload_n 0, 1) := by decide +kernel
theorem dX4_forget_12 : decode cX4_forget 12 = .ok (.invokevirtual 64, 3) := by decide +kernel
theorem dX4_forget_15 : decode cX4_forget 15 = .ok (.aload_n 0, 1) := by decide +kernel
theorem dX4_forget_16 : decode cX4_forget 16 = .ok (.iload_n 1, 1) := by decide +kernel
theorem dX4_forget_17 : decode cX4_forget 17 = .ok (.invokevirtual 105, 3) := by decide +kernel
theorem dX4_forget_20 : decode cX4_forget 20 = .ok (.istore_n 2, 1) := by decide +kernel
theorem dX4_forget_21 : decode cX4_forget 21 = .ok (.aload_n 0, 1) := by decide +kernel
theorem dX4_forget_22 : decode cX4_forget 22 = .ok (.getfield 10, 3) := by decide +kernel
theorem dX4_forget_25 : decode cX4_forget 25 = .ok (.iload_n 1, 1) := by decide +kernel
theorem dX4_forget_26 : decode cX4_forget 26 = .ok (.invokevirtual 109, 3) := by decide +kernel
theorem dX4_forget_29 : decode cX4_forget 29 = .ok (.aload_n 0, 1) := by decide +kernel
theorem dX4_forget_30 : decode cX4_forget 30 = .ok (.getfield 10, 3) := by decide +kernel
theorem dX4_forget_33 : decode cX4_forget 33 = .ok (.dup, 1) := by decide +kernel
theorem dX4_forget_34 : decode cX4_forget 34 = .ok (.getfield 112, 3) := by decide +kernel
theorem dX4_forget_37 : decode cX4_forget 37 = .ok (.iconst 1, 1) := by decide +kernel
theorem dX4_forget_38 : decode cX4_forget 38 = .ok (.iadd, 1) := by decide +kernel
theorem dX4_forget_39 : decode cX4_forget 39 = .ok (.putfield 112, 3) := by decide +kernel
theorem dX4_forget_42 : decode cX4_forget 42 = .ok (.aload_n 0, 1) := by decide +kernel
theorem dX4_forget_43 : decode cX4_forget 43 = .ok (.getfield 10, 3) := by decide +kernel
theorem dX4_forget_46 : decode cX4_forget 46 = .ok (.invokevirtual 76, 3) := by decide +kernel
theorem dX4_forget_49 : decode cX4_forget 49 = .ok (.iload_n 2, 1) := by decide +kernel
theorem dX4_forget_50 : decode cX4_forget 50 = .ok (.ireturn, 1) := by decide +kernel
theorem dX4_append_0 : decode cX4_append 0 = .ok (.iload_n 1, 1) := by decide +kernel
theorem dX4_append_1 : decode cX4_append 1 = .ok (.bipush 33, 2) := by decide +kernel
theorem dX4_append_3 : decode cX4_append 3 = .ok (.bipush 126, 2) := by decide +kernel
theorem dX4_append_5 : decode cX4_append 5 = .ok (.invokestatic 60, 3) := by decide +kernel
theorem dX4_append_8 : decode cX4_append 8 = .ok (.aload_n 0, 1) := by decide +kernel
theorem dX4_append_9 : decode cX4_append 9 = .ok (.getfield 34, 3) := by decide +kernel
theorem dX4_append_12 : decode cX4_append 12 = .ok (.getfield 115, 3) := by decide +kernel
theorem dX4_append_15 : decode cX4_append 15 = .ok (.bipush 60, 2) := by decide +kernel
theorem dX4_append_17 : decode cX4_append 17 = .ok (.if_icmp .lt 13, 3) := by decide +kernel
theorem dX4_append_20 : decode cX4_append 20 = .ok (.new 118, 3) := by decide +kernel
theorem dX4_append_23 : decode cX4_append 23 = .ok (.dup, 1) := by decide +kernel
theorem dX4_append_24 : decode cX4_append 24 = .ok (.ldc 120, 2) := by decide +kernel
theorem dX4_append_26 : decode cX4_append 26 = .ok (.invokespecial 122, 3) := by decide +kernel
theorem dX4_append_29 : decode cX4_append 29 = .ok (.athrow, 1) := by decide +kernel
theorem dX4_append_30 : decode cX4_append 30 = .ok (.aload_n 0, 1) := by decide +kernel
theorem dX4_append_31 : decode cX4_append 31 = .ok (.getfield 34, 3) := by decide +kernel
theorem dX4_append_34 : decode cX4_append 34 = .ok (.getfield 125, 3) := by decide +kernel
theorem dX4_append_37 : decode cX4_append 37 = .ok (.aload_n 0, 1) := by decide +kernel
theorem dX4_append_38 : decode cX4_append 38 = .ok (.getfield 34, 3) := by decide +kernel
theorem dX4_append_41 : decode cX4_append 41 = .ok (.getfield 115, 3) := by decide +kernel
theorem dX4_append_44 : decode cX4_append 44 = .ok (.iload_n 1, 1) := by decide +kernel
theorem dX4_append_45 : decode cX4_append 45 = .ok (.iastore, 1) := by decide +kernel
theorem dX4_append_46 : decode cX4_append 46 = .ok (.aload_n 0, 1) := by decide +kernel
theorem dX4_append_47 : decode cX4_append 47 = .ok (.getfield 34, 3) := by decide +kernel
theorem dX4_append_50 : decode cX4_append 50 = .ok (.dup, 1) := by decide +kernel
theorem dX4_append_51 : decode cX4_append 51 = .ok (.getfield 115, 3) := by decide +kernel
theorem dX4_append_54 : decode cX4_append 54 = .ok (.iconst 1, 1) := by decide +kernel
theorem dX4_append_55 : decode cX4_append 55 = .ok (.iadd, 1) := by decide +kernel
theorem dX4_append_56 : decode cX4_append 56 = .ok (.putfield 115, 3) := by decide +kernel
theorem dX4_append_59 : decode cX4_append 59 = .ok (.aload_n 0, 1) := by decide +kernel
theorem dX4_append_60 : decode cX4_append 60 = .ok (.getfield 34, 3) := by decide +kernel
theorem dX4_append_63 : decode cX4_append 63 = .ok (.getfield 115, 3) := by decide +kernel
theorem dX4_append_66 : decode cX4_append 66 = .ok (.ireturn, 1) := by decide +kernel
theorem dX4_clearBuffer_0 : decode cX4_clearBuffer 0 = .ok (.aload_n 0, 1) := by decide +kernel
theorem dX4_clearBuffer_1 : decode cX4_clearBuffer 1 = .ok (.getfield 34, 3) := by decide +kernel
theorem dX4_clearBuffer_4 : decode cX4_clearBuffer 4 = .ok (.getfield 115, 3) := by decide +kernel
theorem dX4_clearBuffer_7 : decode cX4_clearBuffer 7 = .ok (.istore_n 1, 1) := by decide +kernel
theorem dX4_clearBuffer_8 : decode cX4_clearBuffer 8 = .ok (.aload_n 0, 1) := by decide +kernel
theorem dX4_clearBuffer_9 : decode cX4_clearBuffer 9 = .ok (.getfield 34, 3) := by decide +kernel
theorem dX4_clearBuffer_12 : decode cX4_clearBuffer 12 = .ok (.iconst 0, 1) := by decide +kernel
theorem dX4_clearBuffer_13 : decode cX4_clearBuffer 13 = .ok (.putfield 115, 3) := by decide +kernel
theorem dX4_clearBuffer_16 : decode cX4_clearBuffer 16 = .ok (.iload_n 1, 1) := by decide +kernel
theorem dX4_clearBuffer_17 : decode cX4_clearBuffer 17 = .ok (.ireturn, 1) := by decide +kernel
theorem dX4_firstError_0 : decode cX4_firstError 0 = .ok (.aload_n 0, 1) := by decide +kernel
theorem dX4_firstError_1 : decode cX4_firstError 1 = .ok (.getfield 34, 3) := by decide +kernel
theorem dX4_firstError_4 : decode cX4_firstError 4 = .ok (.invokevirtual 128, 3) := by decide +kernel
theorem dX4_firstError_7 : decode cX4_firstError 7 = .ok (.ireturn, 1) := by decide +kernel
theorem dX4_circleAt_0 : decode cX4_circleAt 0 = .ok (.aload_n 0, 1) := by decide +kernel
theorem dX4_circleAt_1 : decode cX4_circleAt 1 = .ok (.getfield 34, 3) := by decide +kernel
theorem dX4_circleAt_4 : decode cX4_circleAt 4 = .ok (.invokevirtual 132, 3) := by decide +kernel
theorem dX4_circleAt_7 : decode cX4_circleAt 7 = .ok (.ifCond .ne 13, 3) := by decide +kernel
theorem dX4_circleAt_10 : decode cX4_circleAt 10 = .ok (.new 118, 3) := by decide +kernel
theorem dX4_circleAt_13 : decode cX4_circleAt 13 = .ok (.dup, 1) := by decide +kernel
theorem dX4_circleAt_14 : decode cX4_circleAt 14 = .ok (.ldc 136, 2) := by decide +kernel
theorem dX4_circleAt_16 : decode cX4_circleAt 16 = .ok (.invokespecial 122, 3) := by decide +kernel
theorem dX4_circleAt_19 : decode cX4_circleAt 19 = .ok (.athrow, 1) := by decide +kernel
theorem dX4_circleAt_20 : decode cX4_circleAt 20 = .ok (.aload_n 0, 1) := by decide +kernel
theorem dX4_circleAt_21 : decode cX4_circleAt 21 = .ok (.getfield 34, 3) := by decide +kernel
theorem dX4_circleAt_24 : decode cX4_circleAt 24 = .ok (.iload_n 1, 1) := by decide +kernel
theorem dX4_circleAt_25 : decode cX4_circleAt 25 = .ok (.invokevirtual 138, 3) := by decide +kernel
theorem dX4_circleAt_28 : decode cX4_circleAt 28 = .ok (.ifCond .ne 13, 3) := by decide +kernel
theorem dX4_circleAt_31 : decode cX4_circleAt 31 = .ok (.new 142, 3) := by decide +kernel
theorem dX4_circleAt_34 : decode cX4_circleAt 34 = .ok (.dup, 1) := by decide +kernel
theorem dX4_circleAt_35 : decode cX4_circleAt 35 = .ok (.ldc 144, 2) := by decide +kernel
theorem dX4_circleAt_37 : decode cX4_circleAt 37 = .ok (.invokespecial 146, 3) := by decide +kernel
theorem dX4_circleAt_40 : decode cX4_circleAt 40 = .ok (.athrow, 1) := by decide +kernel
theorem dX4_circleAt_41 : decode cX4_circleAt 41 = .ok (.iload_n 2, 1) := by decide +kernel
theorem dX4_circleAt_42 : decode cX4_circleAt 42 = .ok (.invokestatic 95, 3) := by decide +kernel
theorem dX4_circleAt_45 : decode cX4_circleAt 45 = .ok (.aload_n 0, 1) := by decide +kernel
theorem dX4_circleAt_46 : decode cX4_circleAt 46 = .ok (.aload_n 0, 1) := by decide +kernel
theorem dX4_circleAt_47 : decode cX4_circleAt 47 = .ok (.getfield 34, 3) := by decide +kernel
theorem dX4_circleAt_50 : decode cX4_circleAt 50 = .ok (.iload_n 1, 1) := by decide +kernel
theorem dX4_circleAt_51 : decode cX4_circleAt 51 = .ok (.invokevirtual 147, 3) := by decide +kernel
theorem dX4_circleAt_54 : decode cX4_circleAt 54 = .ok (.iload_n 2, 1) := by decide +kernel
theorem dX4_circleAt_55 : decode cX4_circleAt 55 = .ok (.invokevirtual 98, 3) := by decide +kernel
theorem dX4_circleAt_58 : decode cX4_circleAt 58 = .ok (.ireturn, 1) := by decide +kernel
theorem dX4_keep_0 : decode cX4_keep 0 = .ok (.iload_n 1, 1) := by decide +kernel
theorem dX4_keep_1 : decode cX4_keep 1 = .ok (.iconst 0, 1) := by decide +kernel
theorem dX4_keep_2 : decode cX4_keep 2 = .ok (.iconst 1, 1) := by decide +kernel
theorem dX4_keep_3 : decode cX4_keep 3 = .ok (.invokestatic 60, 3) := by decide +kernel
theorem dX4_keep_6 : decode cX4_keep 6 = .ok (.aload_n 0, 1) := by decide +kernel
theorem dX4_keep_7 : decode cX4_keep 7 = .ok (.getfield 24, 3) := by decide +kernel
theorem dX4_keep_10 : decode cX4_keep 10 = .ok (.iload_n 1, 1) := by decide +kernel
theorem dX4_keep_11 : decode cX4_keep 11 = .ok (.aaload, 1) := by decide +kernel
theorem dX4_keep_12 : decode cX4_keep 12 = .ok (.aload_n 0, 1) := by decide +kernel
theorem dX4_keep_13 : decode cX4_keep 13 = .ok (.getfield 10, 3) := by decide +kernel
theorem dX4_keep_16 : decode cX4_keep 16 = .ok (.invokevirtual 150, 3) := by decide +kernel
theorem dX4_keep_19 : decode cX4_keep 19 = .ok (.aload_n 0, 1) := by decide +kernel
theorem dX4_keep_20 : decode cX4_keep 20 = .ok (.getfield 27, 3) := by decide +kernel
theorem dX4_keep_23 : decode cX4_keep 23 = .ok (.iload_n 1, 1) := by decide +kernel
theorem dX4_keep_24 : decode cX4_keep 24 = .ok (.iconst 1, 1) := by decide +kernel
theorem dX4_keep_25 : decode cX4_keep 25 = .ok (.bastore, 1) := by decide +kernel
theorem dX4_keep_26 : decode cX4_keep 26 = .ok (.aload_n 0, 1) := by decide +kernel
theorem dX4_keep_27 : decode cX4_keep 27 = .ok (.getfield 10, 3) := by decide +kernel
theorem dX4_keep_30 : decode cX4_keep 30 = .ok (.getfield 102, 3) := by decide +kernel
theorem dX4_keep_33 : decode cX4_keep 33 = .ok (.ireturn, 1) := by decide +kernel
theorem dX4_goBack_0 : decode cX4_goBack 0 = .ok (.iload_n 1, 1) := by decide +kernel
theorem dX4_goBack_1 : decode cX4_goBack 1 = .ok (.iconst 0, 1) := by decide +kernel
theorem dX4_goBack_2 : decode cX4_goBack 2 = .ok (.iconst 1, 1) := by decide +kernel
theorem dX4_goBack_3 : decode cX4_goBack 3 = .ok (.invokestatic 60, 3) := by decide +kernel
theorem dX4_goBack_6 : decode cX4_goBack 6 = .ok (.aload_n 0, 1) := by decide +kernel
theorem dX4_goBack_7 : decode cX4_goBack 7 = .ok (.getfield 27, 3) := by decide +kernel
theorem dX4_goBack_10 : decode cX4_goBack 10 = .ok (.iload_n 1, 1) := by decide +kernel
theorem dX4_goBack_11 : decode cX4_goBack 11 = .ok (.baload, 1) := by decide +kernel
theorem dX4_goBack_12 : decode cX4_goBack 12 = .ok (.ifCond .ne 13, 3) := by decide +kernel
theorem dX4_goBack_15 : decode cX4_goBack 15 = .ok (.new 118, 3) := by decide +kernel
theorem dX4_goBack_18 : decode cX4_goBack 18 = .ok (.dup, 1) := by decide +kernel
theorem dX4_goBack_19 : decode cX4_goBack 19 = .ok (.ldc 154, 2) := by decide +kernel
theorem dX4_goBack_21 : decode cX4_goBack 21 = .ok (.invokespecial 122, 3) := by decide +kernel
theorem dX4_goBack_24 : decode cX4_goBack 24 = .ok (.athrow, 1) := by decide +kernel
theorem dX4_goBack_25 : decode cX4_goBack 25 = .ok (.aload_n 0, 1) := by decide +kernel
theorem dX4_goBack_26 : decode cX4_goBack 26 = .ok (.invokevirtual 64, 3) := by decide +kernel
theorem dX4_goBack_29 : decode cX4_goBack 29 = .ok (.aload_n 0, 1) := by decide +kernel
theorem dX4_goBack_30 : decode cX4_goBack 30 = .ok (.getfield 10, 3) := by decide +kernel
theorem dX4_goBack_33 : decode cX4_goBack 33 = .ok (.aload_n 0, 1) := by decide +kernel
theorem dX4_goBack_34 : decode cX4_goBack 34 = .ok (.getfield 24, 3) := by decide +kernel
theorem dX4_goBack_37 : decode cX4_goBack 37 = .ok (.iload_n 1, 1) := by decide +kernel
theorem dX4_goBack_38 : decode cX4_goBack 38 = .ok (.aaload, 1) := by decide +kernel
theorem dX4_goBack_39 : decode cX4_goBack 39 = .ok (.invokevirtual 150, 3) := by decide +kernel
theorem dX4_goBack_42 : decode cX4_goBack 42 = .ok (.aload_n 0, 1) := by decide +kernel
theorem dX4_goBack_43 : decode cX4_goBack 43 = .ok (.getfield 10, 3) := by decide +kernel
theorem dX4_goBack_46 : decode cX4_goBack 46 = .ok (.getfield 102, 3) := by decide +kernel
theorem dX4_goBack_49 : decode cX4_goBack 49 = .ok (.ireturn, 1) := by decide +kernel
theorem dX4_undo_0 : decode cX4_undo 0 = .ok (.aload_n 0, 1) := by decide +kernel
theorem dX4_undo_1 : decode cX4_undo 1 = .ok (.getfield 20, 3) := by decide +kernel
theorem dX4_undo_4 : decode cX4_undo 4 = .ok (.iconst 1, 1) := by decide +kernel
theorem dX4_undo_5 : decode cX4_undo 5 = .ok (.if_icmp .ge 13, 3) := by decide +kernel
theorem dX4_undo_8 : decode cX4_undo 8 = .ok (.new 118, 3) := by decide +kernel
theorem dX4_undo_11 : decode cX4_undo 11 = .ok (.dup, 1) := by decide +kernel
theorem dX4_undo_12 : decode cX4_undo 12 = .ok (.ldc 156, 2) := by decide +kernel
theorem dX4_undo_14 : decode cX4_undo 14 = .ok (.invokespecial 122, 3) := by decide +kernel
theorem dX4_undo_17 : decode cX4_undo 17 = .ok (.athrow, 1) := by decide +kernel
theorem dX4_undo_18 : decode cX4_undo 18 = .ok (.aload_n 0, 1) := by decide +kernel
theorem dX4_undo_19 : decode cX4_undo 19 = .ok (.dup, 1) := by decide +kernel
theorem dX4_undo_20 : decode cX4_undo 20 = .ok (.getfield 20, 3) := by decide +kernel
theorem dX4_undo_23 : decode cX4_undo 23 = .ok (.iconst 1, 1) := by decide +kernel
theorem dX4_undo_24 : decode cX4_undo 24 = .ok (.isub, 1) := by decide +kernel
theorem dX4_undo_25 : decode cX4_undo 25 = .ok (.putfield 20, 3) := by decide +kernel
theorem dX4_undo_28 : decode cX4_undo 28 = .ok (.aload_n 0, 1) := by decide +kernel
theorem dX4_undo_29 : decode cX4_undo 29 = .ok (.getfield 10, 3) := by decide +kernel
theorem dX4_undo_32 : decode cX4_undo 32 = .ok (.aload_n 0, 1) := by decide +kernel
theorem dX4_undo_33 : decode cX4_undo 33 = .ok (.getfield 16, 3) := by decide +kernel
theorem dX4_undo_36 : decode cX4_undo 36 = .ok (.aload_n 0, 1) := by decide +kernel
theorem dX4_undo_37 : decode cX4_undo 37 = .ok (.getfield 20, 3) := by decide +kernel
theorem dX4_undo_40 : decode cX4_undo 40 = .ok (.aaload, 1) := by decide +kernel
theorem dX4_undo_41 : decode cX4_undo 41 = .ok (.invokevirtual 150, 3) := by decide +kernel
theorem dX4_undo_44 : decode cX4_undo 44 = .ok (.aload_n 0, 1) := by decide +kernel
theorem dX4_undo_45 : decode cX4_undo 45 = .ok (.getfield 20, 3) := by decide +kernel
theorem dX4_undo_48 : decode cX4_undo 48 = .ok (.ireturn, 1) := by decide +kernel
theorem dX4_letterOf_0 : decode cX4_letterOf 0 = .ok (.iload_n 1, 1) := by decide +kernel
theorem dX4_letterOf_1 : decode cX4_letterOf 1 = .ok (.invokestatic 56, 3) := by decide +kernel
theorem dX4_letterOf_4 : decode cX4_letterOf 4 = .ok (.iload_n 2, 1) := by decide +kernel
theorem dX4_letterOf_5 : decode cX4_letterOf 5 = .ok (.iconst 0, 1) := by decide +kernel
theorem dX4_letterOf_6 : decode cX4_letterOf 6 = .ok (.iconst 3, 1) := by decide +kernel
theorem dX4_letterOf_7 : decode cX4_letterOf 7 = .ok (.invokestatic 60, 3) := by decide +kernel
theorem dX4_letterOf_10 : decode cX4_letterOf 10 = .ok (.iload_n 2, 1) := by decide +kernel
theorem dX4_letterOf_11 : decode cX4_letterOf 11 = .ok (.tableswitch 55 0 2 #[25, 35, 45], 25) := by decide +kernel
theorem dX4_letterOf_36 : decode cX4_letterOf 36 = .ok (.aload_n 0, 1) := by decide +kernel
theorem dX4_letterOf_37 : decode cX4_letterOf 37 = .ok (.getfield 10, 3) := by decide +kernel
theorem dX4_letterOf_40 : decode cX4_letterOf 40 = .ok (.getfield 67, 3) := by decide +kernel
theorem dX4_letterOf_43 : decode cX4_letterOf 43 = .ok (.iload_n 1, 1) := by decide +kernel
theorem dX4_letterOf_44 : decode cX4_letterOf 44 = .ok (.iaload, 1) := by decide +kernel
theorem dX4_letterOf_45 : decode cX4_letterOf 45 = .ok (.ireturn, 1) := by decide +kernel
theorem dX4_letterOf_46 : decode cX4_letterOf 46 = .ok (.aload_n 0, 1) := by decide +kernel
theorem dX4_letterOf_47 : decode cX4_letterOf 47 = .ok (.getfield 10, 3) := by decide +kernel
theorem dX4_letterOf_50 : decode cX4_letterOf 50 = .ok (.getfield 70, 3) := by decide +kernel
theorem dX4_letterOf_53 : decode cX4_letterOf 53 = .ok (.iload_n 1, 1) := by decide +kernel
theorem dX4_letterOf_54 : decode cX4_letterOf 54 = .ok (.iaload, 1) := by decide +kernel
theorem dX4_letterOf_55 : decode cX4_letterOf 55 = .ok (.ireturn, 1) := by decide +kernel
theorem dX4_letterOf_56 : decode cX4_letterOf 56 = .ok (.aload_n 0, 1) := by decide +kernel
theorem dX4_letterOf_57 : decode cX4_letterOf 57 = .ok (.getfield 10, 3) := by decide +kernel
theorem dX4_letterOf_60 : decode cX4_letterOf 60 = .ok (.getfield 73, 3) := by decide +kernel
theorem dX4_letterOf_63 : decode cX4_letterOf 63 = .ok (.iload_n 1, 1) := by decide +kernel
theorem dX4_letterOf_64 : decode cX4_letterOf 64 = .ok (.iaload, 1) := by decide +kernel
theorem dX4_letterOf_65 : decode cX4_letterOf 65 = .ok (.ireturn, 1) := by decide +kernel
theorem dX4_letterOf_66 : decode cX4_letterOf 66 = .ok (.aload_n 0, 1) := by decide +kernel
theorem dX4_letterOf_67 : decode cX4_letterOf 67 = .ok (.getfield 10, 3) := by decide +kernel
theorem dX4_letterOf_70 : decode cX4_letterOf 70 = .ok (.iload_n 1, 1) := by decide +kernel
theorem dX4_letterOf_71 : decode cX4_letterOf 71 = .ok (.invokevirtual 158, 3) := by decide +kernel
theorem dX4_letterOf_74 : decode cX4_letterOf 74 = .ok (.ireturn, 1) := by decide +kernel
theorem dX4_pairOf_0 : decode cX4_pairOf 0 = .ok (.iload_n 1, 1) := by decide +kernel
theorem dX4_pairOf_1 : decode cX4_pairOf 1 = .ok (.invokestatic 56, 3) := by decide +kernel
theorem dX4_pairOf_4 : decode cX4_pairOf 4 = .ok (.iload_n 2, 1) := by decide +kernel
theorem dX4_pairOf_5 : decode cX4_pairOf 5 = .ok (.invokestatic 56, 3) := by decide +kernel
theorem dX4_pairOf_8 : decode cX4_pairOf 8 = .ok (.iload_n 3, 1) := by decide +kernel
theorem dX4_pairOf_9 : decode cX4_pairOf 9 = .ok (.iconst 0, 1) := by decide +kernel
theorem dX4_pairOf_10 : decode cX4_pairOf 10 = .ok (.iconst 4, 1) := by decide +kernel
theorem dX4_pairOf_11 : decode cX4_pairOf 11 = .ok (.invokestatic 60, 3) := by decide +kernel
theorem dX4_pairOf_14 : decode cX4_pairOf 14 = .ok (.bipush 10, 2) := by decide +kernel
theorem dX4_pairOf_16 : decode cX4_pairOf 16 = .ok (.iload_n 1, 1) := by decide +kernel
theorem dX4_pairOf_17 : decode cX4_pairOf 17 = .ok (.imul, 1) := by decide +kernel
theorem dX4_pairOf_18 : decode cX4_pairOf 18 = .ok (.iload_n 2, 1) := by decide +kernel
theorem dX4_pairOf_19 : decode cX4_pairOf 19 = .ok (.iadd, 1) := by decide +kernel
theorem dX4_pairOf_20 : decode cX4_pairOf 20 = .ok (.istore 4, 2) := by decide +kernel
theorem dX4_pairOf_22 : decode cX4_pairOf 22 = .ok (.iload_n 3, 1) := by decide +kernel
theorem dX4_pairOf_23 : decode cX4_pairOf 23 = .ok (.tableswitch 109 0 3 #[29, 49, 78, 95], 29) := by decide +kernel
theorem dX4_pairOf_52 : decode cX4_pairOf 52 = .ok (.aload_n 0, 1) := by decide +kernel
theorem dX4_pairOf_53 : decode cX4_pairOf 53 = .ok (.getfield 10, 3) := by decide +kernel
theorem dX4_pairOf_56 : decode cX4_pairOf 56 = .ok (.getfield 161, 3) := by decide +kernel
theorem dX4_pairOf_59 : decode cX4_pairOf 59 = .ok (.aload_n 0, 1) := by decide +kernel
theorem dX4_pairOf_60 : decode cX4_pairOf 60 = .ok (.getfield 10, 3) := by decide +kernel
theorem dX4_pairOf_63 : decode cX4_pairOf 63 = .ok (.iload 4, 2) := by decide +kernel
theorem dX4_pairOf_65 : decode cX4_pairOf 65 = .ok (.invokevirtual 164, 3) := by decide +kernel
theorem dX4_pairOf_68 : decode cX4_pairOf 68 = .ok (.bipush 100, 2) := by decide +kernel
theorem dX4_pairOf_70 : decode cX4_pairOf 70 = .ok (.iadd, 1) := by decide +kernel
theorem dX4_pairOf_71 : decode cX4_pairOf 71 = .ok (.ireturn, 1) := by decide +kernel
theorem dX4_pairOf_72 : decode cX4_pairOf 72 = .ok (.aload_n 0, 1) := by decide +kernel
theorem dX4_pairOf_73 : decode cX4_pairOf 73 = .ok (.getfield 41, 3) := by decide +kernel
theorem dX4_pairOf_76 : decode cX4_pairOf 76 = .ok (.aload_n 0, 1) := by decide +kernel
theorem dX4_pairOf_77 : decode cX4_pairOf 77 = .ok (.getfield 10, 3) := by decide +kernel
theorem dX4_pairOf_80 : decode cX4_pairOf 80 = .ok (.iconst (-1), 1) := by decide +kernel
theorem dX4_pairOf_81 : decode cX4_pairOf 81 = .ok (.invokevirtual 168, 3) := by decide +kernel
theorem dX4_pairOf_84 : decode cX4_pairOf 84 = .ok (.aload_n 0, 1) := by decide +kernel
theorem dX4_pairOf_85 : decode cX4_pairOf 85 = .ok (.getfield 41, 3) := by decide +kernel
theorem dX4_pairOf_88 : decode cX4_pairOf 88 = .ok (.aload_n 0, 1) := by decide +kernel
theorem dX4_pairOf_89 : decode cX4_pairOf 89 = .ok (.getfield 10, 3) := by decide +kernel
theorem dX4_pairOf_92 : decode cX4_pairOf 92 = .ok (.iload 4, 2) := by decide +kernel
theorem dX4_pairOf_94 : decode cX4_pairOf 94 = .ok (.invokevirtual 164, 3) := by decide +kernel
theorem dX4_pairOf_97 : decode cX4_pairOf 97 = .ok (.bipush 100, 2) := by decide +kernel
theorem dX4_pairOf_99 : decode cX4_pairOf 99 = .ok (.iadd, 1) := by decide +kernel
theorem dX4_pairOf_100 : decode cX4_pairOf 100 = .ok (.ireturn, 1) := by decide +kernel
theorem dX4_pairOf_101 : decode cX4_pairOf 101 = .ok (.aload_n 0, 1) := by decide +kernel
theorem dX4_pairOf_102 : decode cX4_pairOf 102 = .ok (.getfield 10, 3) := by decide +kernel
theorem dX4_pairOf_105 : decode cX4_pairOf 105 = .ok (.getfield 161, 3) := by decide +kernel
theorem dX4_pairOf_108 : decode cX4_pairOf 108 = .ok (.getfield 172, 3) := by decide +kernel
theorem dX4_pairOf_111 : decode cX4_pairOf 111 = .ok (.iload 4, 2) := by decide +kernel
theorem dX4_pairOf_113 : decode cX4_pairOf 113 = .ok (.iaload, 1) := by decide +kernel
theorem dX4_pairOf_114 : decode cX4_pairOf 114 = .ok (.bipush 100, 2) := by decide +kernel
theorem dX4_pairOf_116 : decode cX4_pairOf 116 = .ok (.iadd, 1) := by decide +kernel
theorem dX4_pairOf_117 : decode cX4_pairOf 117 = .ok (.ireturn, 1) := by decide +kernel
theorem dX4_pairOf_118 : decode cX4_pairOf 118 = .ok (.aload_n 0, 1) := by decide +kernel
theorem dX4_pairOf_119 : decode cX4_pairOf 119 = .ok (.getfield 10, 3) := by decide +kernel
theorem dX4_pairOf_122 : decode cX4_pairOf 122 = .ok (.getfield 161, 3) := by decide +kernel
theorem dX4_pairOf_125 : decode cX4_pairOf 125 = .ok (.getfield 175, 3) := by decide +kernel
theorem dX4_pairOf_128 : decode cX4_pairOf 128 = .ok (.iload 4, 2) := by decide +kernel
theorem dX4_pairOf_130 : decode cX4_pairOf 130 = .ok (.iaload, 1) := by decide +kernel
theorem dX4_pairOf_131 : decode cX4_pairOf 131 = .ok (.ireturn, 1) := by decide +kernel
theorem dX4_pairOf_132 : decode cX4_pairOf 132 = .ok (.aload_n 0, 1) := by decide +kernel
theorem dX4_pairOf_133 : decode cX4_pairOf 133 = .ok (.getfield 10, 3) := by decide +kernel
theorem dX4_pairOf_136 : decode cX4_pairOf 136 = .ok (.getfield 161, 3) := by decide +kernel
theorem dX4_pairOf_139 : decode cX4_pairOf 139 = .ok (.getfield 178, 3) := by decide +kernel
theorem dX4_pairOf_142 : decode cX4_pairOf 142 = .ok (.iload 4, 2) := by decide +kernel
theorem dX4_pairOf_144 : decode cX4_pairOf 144 = .ok (.iaload, 1) := by decide +kernel
theorem dX4_pairOf_145 : decode cX4_pairOf 145 = .ok (.ireturn, 1) := by decide +kernel
theorem dX4_shapesOf_0 : decode cX4_shapesOf 0 = .ok (.iload_n 1, 1) := by decide +kernel
theorem dX4_shapesOf_1 : decode cX4_shapesOf 1 = .ok (.iconst 4, 1) := by decide +kernel
theorem dX4_shapesOf_2 : decode cX4_shapesOf 2 = .ok (.invokestatic 79, 3) := by decide +kernel
theorem dX4_shapesOf_5 : decode cX4_shapesOf 5 = .ok (.iload_n 2, 1) := by decide +kernel
theorem dX4_shapesOf_6 : decode cX4_shapesOf 6 = .ok (.iconst 4, 1) := by decide +kernel
theorem dX4_shapesOf_7 : decode cX4_shapesOf 7 = .ok (.invokestatic 79, 3) := by decide +kernel
theorem dX4_shapesOf_10 : decode cX4_shapesOf 10 = .ok (.iload_n 3, 1) := by decide +kernel
theorem dX4_shapesOf_11 : decode cX4_shapesOf 11 = .ok (.iconst 0, 1) := by decide +kernel
theorem dX4_shapesOf_12 : decode cX4_shapesOf 12 = .ok (.iconst 3, 1) := by decide +kernel
theorem dX4_shapesOf_13 : decode cX4_shapesOf 13 = .ok (.invokestatic 60, 3) := by decide +kernel
theorem dX4_shapesOf_16 : decode cX4_shapesOf 16 = .ok (.iconst 4, 1) := by decide +kernel
theorem dX4_shapesOf_17 : decode cX4_shapesOf 17 = .ok (.iload_n 1, 1) := by decide +kernel
theorem dX4_shapesOf_18 : decode cX4_shapesOf 18 = .ok (.imul, 1) := by decide +kernel
theorem dX4_shapesOf_19 : decode cX4_shapesOf 19 = .ok (.iload_n 2, 1) := by decide +kernel
theorem dX4_shapesOf_20 : decode cX4_shapesOf 20 = .ok (.iadd, 1) := by decide +kernel
theorem dX4_shapesOf_21 : decode cX4_shapesOf 21 = .ok (.istore 4, 2) := by decide +kernel
theorem dX4_shapesOf_23 : decode cX4_shapesOf 23 = .ok (.iload_n 3, 1) := by decide +kernel
theorem dX4_shapesOf_24 : decode cX4_shapesOf 24 = .ok (.tableswitch 69 0 2 #[28, 45, 59], 28) := by decide +kernel
theorem dX4_shapesOf_52 : decode cX4_shapesOf 52 = .ok (.aload_n 0, 1) := by decide +kernel
theorem dX4_shapesOf_53 : decode cX4_shapesOf 53 = .ok (.getfield 10, 3) := by decide +kernel
theorem dX4_shapesOf_56 : decode cX4_shapesOf 56 = .ok (.getfield 161, 3) := by decide +kernel
theorem dX4_shapesOf_59 : decode cX4_shapesOf 59 = .ok (.getfield 181, 3) := by decide +kernel
theorem dX4_shapesOf_62 : decode cX4_shapesOf 62 = .ok (.iload 4, 2) := by decide +kernel
theorem dX4_shapesOf_64 : decode cX4_shapesOf 64 = .ok (.iaload, 1) := by decide +kernel
theorem dX4_shapesOf_65 : decode cX4_shapesOf 65 = .ok (.bipush 100, 2) := by decide +kernel
theorem dX4_shapesOf_67 : decode cX4_shapesOf 67 = .ok (.iadd, 1) := by decide +kernel
theorem dX4_shapesOf_68 : decode cX4_shapesOf 68 = .ok (.ireturn, 1) := by decide +kernel
theorem dX4_shapesOf_69 : decode cX4_shapesOf 69 = .ok (.aload_n 0, 1) := by decide +kernel
theorem dX4_shapesOf_70 : decode cX4_shapesOf 70 = .ok (.getfield 10, 3) := by decide +kernel
theorem dX4_shapesOf_73 : decode cX4_shapesOf 73 = .ok (.getfield 83, 3) := by decide +kernel
theorem dX4_shapesOf_76 : decode cX4_shapesOf 76 = .ok (.iload 4, 2) := by decide +kernel
theorem dX4_shapesOf_78 : decode cX4_shapesOf 78 = .ok (.iaload, 1) := by decide +kernel
theorem dX4_shapesOf_79 : decode cX4_shapesOf 79 = .ok (.bipush 100, 2) := by decide +kernel
theorem dX4_shapesOf_81 : decode cX4_shapesOf 81 = .ok (.iadd, 1) := by decide +kernel
theorem dX4_shapesOf_82 : decode cX4_shapesOf 82 = .ok (.ireturn, 1) := by decide +kernel
theorem dX4_shapesOf_83 : decode cX4_shapesOf 83 = .ok (.aload_n 0, 1) := by decide +kernel
theorem dX4_shapesOf_84 : decode cX4_shapesOf 84 = .ok (.getfield 10, 3) := by decide +kernel
theorem dX4_shapesOf_87 : decode cX4_shapesOf 87 = .ok (.iload 4, 2) := by decide +kernel
theorem dX4_shapesOf_89 : decode cX4_shapesOf 89 = .ok (.invokevirtual 184, 3) := by decide +kernel
theorem dX4_shapesOf_92 : decode cX4_shapesOf 92 = .ok (.ireturn, 1) := by decide +kernel
theorem dX4_shapesOf_93 : decode cX4_shapesOf 93 = .ok (.aload_n 0, 1) := by decide +kernel
theorem dX4_shapesOf_94 : decode cX4_shapesOf 94 = .ok (.getfield 10, 3) := by decide +kernel
theorem dX4_shapesOf_97 : decode cX4_shapesOf 97 = .ok (.iload 4, 2) := by decide +kernel
theorem dX4_shapesOf_99 : decode cX4_shapesOf 99 = .ok (.invokevirtual 187, 3) := by decide +kernel
theorem dX4_shapesOf_102 : decode cX4_shapesOf 102 = .ok (.ireturn, 1) := by decide +kernel
theorem dX4_lessonOf_0 : decode cX4_lessonOf 0 = .ok (.iload_n 1, 1) := by decide +kernel
theorem dX4_lessonOf_1 : decode cX4_lessonOf 1 = .ok (.aload_n 0, 1) := by decide +kernel
theorem dX4_lessonOf_2 : decode cX4_lessonOf 2 = .ok (.getfield 10, 3) := by decide +kernel
theorem dX4_lessonOf_5 : decode cX4_lessonOf 5 = .ok (.getfield 102, 3) := by decide +kernel
theorem dX4_lessonOf_8 : decode cX4_lessonOf 8 = .ok (.invokestatic 79, 3) := by decide +kernel
theorem dX4_lessonOf_11 : decode cX4_lessonOf 11 = .ok (.iload_n 2, 1) := by decide +kernel
theorem dX4_lessonOf_12 : decode cX4_lessonOf 12 = .ok (.iconst 0, 1) := by decide +kernel
theorem dX4_lessonOf_13 : decode cX4_lessonOf 13 = .ok (.iconst 3, 1) := by decide +kernel
theorem dX4_lessonOf_14 : decode cX4_lessonOf 14 = .ok (.invokestatic 60, 3) := by decide +kernel
theorem dX4_lessonOf_17 : decode cX4_lessonOf 17 = .ok (.iload_n 2, 1) := by decide +kernel
theorem dX4_lessonOf_18 : decode cX4_lessonOf 18 = .ok (.tableswitch 71 0 2 #[26, 39, 52], 26) := by decide +kernel
theorem dX4_lessonOf_44 : decode cX4_lessonOf 44 = .ok (.aload_n 0, 1) := by decide +kernel
theorem dX4_lessonOf_45 : decode cX4_lessonOf 45 = .ok (.getfield 10, 3) := by decide +kernel
theorem dX4_lessonOf_48 : decode cX4_lessonOf 48 = .ok (.getfield 190, 3) := by decide +kernel
theorem dX4_lessonOf_51 : decode cX4_lessonOf 51 = .ok (.iload_n 1, 1) := by decide +kernel
theorem dX4_lessonOf_52 : decode cX4_lessonOf 52 = .ok (.iaload, 1) := by decide +kernel
theorem dX4_lessonOf_53 : decode cX4_lessonOf 53 = .ok (.bipush 10, 2) := by decide +kernel
theorem dX4_lessonOf_55 : decode cX4_lessonOf 55 = .ok (.idiv, 1) := by decide +kernel
theorem dX4_lessonOf_56 : decode cX4_lessonOf 56 = .ok (.ireturn, 1) := by decide +kernel
theorem dX4_lessonOf_57 : decode cX4_lessonOf 57 = .ok (.aload_n 0, 1) := by decide +kernel
theorem dX4_lessonOf_58 : decode cX4_lessonOf 58 = .ok (.getfield 10, 3) := by decide +kernel
theorem dX4_lessonOf_61 : decode cX4_lessonOf 61 = .ok (.getfield 190, 3) := by decide +kernel
theorem dX4_lessonOf_64 : decode cX4_lessonOf 64 = .ok (.iload_n 1, 1) := by decide +kernel
theorem dX4_lessonOf_65 : decode cX4_lessonOf 65 = .ok (.iaload, 1) := by decide +kernel
theorem dX4_lessonOf_66 : decode cX4_lessonOf 66 = .ok (.bipush 10, 2) := by decide +kernel
theorem dX4_lessonOf_68 : decode cX4_lessonOf 68 = .ok (.irem, 1) := by decide +kernel
theorem dX4_lessonOf_69 : decode cX4_lessonOf 69 = .ok (.ireturn, 1) := by decide +kernel
theorem dX4_lessonOf_70 : decode cX4_lessonOf 70 = .ok (.aload_n 0, 1) := by decide +kernel
theorem dX4_lessonOf_71 : decode cX4_lessonOf 71 = .ok (.getfield 10, 3) := by decide +kernel
theorem dX4_lessonOf_74 : decode cX4_lessonOf 74 = .ok (.getfield 193, 3) := by decide +kernel
theorem dX4_lessonOf_77 : decode cX4_lessonOf 77 = .ok (.iload_n 1, 1) := by decide +kernel
theorem dX4_lessonOf_78 : decode cX4_lessonOf 78 = .ok (.iaload, 1) := by decide +kernel
theorem dX4_lessonOf_79 : decode cX4_lessonOf 79 = .ok (.iconst 1, 1) := by decide +kernel
theorem dX4_lessonOf_80 : decode cX4_lessonOf 80 = .ok (.if_icmp .ne 7, 3) := by decide +kernel
theorem dX4_lessonOf_83 : decode cX4_lessonOf 83 = .ok (.iconst 1, 1) := by decide +kernel
theorem dX4_lessonOf_84 : decode cX4_lessonOf 84 = .ok (.goto 4, 3) := by decide +kernel
theorem dX4_lessonOf_87 : decode cX4_lessonOf 87 = .ok (.iconst 0, 1) := by decide +kernel
theorem dX4_lessonOf_88 : decode cX4_lessonOf 88 = .ok (.ireturn, 1) := by decide +kernel
theorem dX4_lessonOf_89 : decode cX4_lessonOf 89 = .ok (.aload_n 0, 1) := by decide +kernel
theorem dX4_lessonOf_90 : decode cX4_lessonOf 90 = .ok (.getfield 10, 3) := by decide +kernel
theorem dX4_lessonOf_93 : decode cX4_lessonOf 93 = .ok (.getfield 161, 3) := by decide +kernel
theorem dX4_lessonOf_96 : decode cX4_lessonOf 96 = .ok (.getfield 196, 3) := by decide +kernel
theorem dX4_lessonOf_99 : decode cX4_lessonOf 99 = .ok (.iload_n 1, 1) := by decide +kernel
theorem dX4_lessonOf_100 : decode cX4_lessonOf 100 = .ok (.iaload, 1) := by decide +kernel
theorem dX4_lessonOf_101 : decode cX4_lessonOf 101 = .ok (.ireturn, 1) := by decide +kernel
theorem dX4_count_0 : decode cX4_count 0 = .ok (.iload_n 1, 1) := by decide +kernel
theorem dX4_count_1 : decode cX4_count 1 = .ok (.iconst 0, 1) := by decide +kernel
theorem dX4_count_2 : decode cX4_count 2 = .ok (.bipush 7, 2) := by decide +kernel
theorem dX4_count_4 : decode cX4_count 4 = .ok (.invokestatic 60, 3) := by decide +kernel
theorem dX4_count_7 : decode cX4_count 7 = .ok (.iload_n 1, 1) := by decide +kernel
theorem dX4_count_8 : decode cX4_count 8 = .ok (.tableswitch 103 0 6 #[44, 52, 60, 71, 79, 87, 95], 44) := by decide +kernel
theorem dX4_count_52 : decode cX4_count 52 = .ok (.aload_n 0, 1) := by decide +kernel
theorem dX4_count_53 : decode cX4_count 53 = .ok (.getfield 10, 3) := by decide +kernel
theorem dX4_count_56 : decode cX4_count 56 = .ok (.getfield 102, 3) := by decide +kernel
theorem dX4_count_59 : decode cX4_count 59 = .ok (.ireturn, 1) := by decide +kernel
theorem dX4_count_60 : decode cX4_count 60 = .ok (.aload_n 0, 1) := by decide +kernel
theorem dX4_count_61 : decode cX4_count 61 = .ok (.getfield 10, 3) := by decide +kernel
theorem dX4_count_64 : decode cX4_count 64 = .ok (.invokevirtual 199, 3) := by decide +kernel
theorem dX4_count_67 : decode cX4_count 67 = .ok (.ireturn, 1) := by decide +kernel
theorem dX4_count_68 : decode cX4_count 68 = .ok (.aload_n 0, 1) := by decide +kernel
theorem dX4_count_69 : decode cX4_count 69 = .ok (.getfield 10, 3) := by decide +kernel
theorem dX4_count_72 : decode cX4_count 72 = .ok (.getfield 161, 3) := by decide +kernel
theorem dX4_count_75 : decode cX4_count 75 = .ok (.getfield 202, 3) := by decide +kernel
theorem dX4_count_78 : decode cX4_count 78 = .ok (.ireturn, 1) := by decide +kernel
theorem dX4_count_79 : decode cX4_count 79 = .ok (.aload_n 0, 1) := by decide +kernel
theorem dX4_count_80 : decode cX4_count 80 = .ok (.getfield 10, 3) := by decide +kernel
theorem dX4_count_83 : decode cX4_count 83 = .ok (.invokevirtual 205, 3) := by decide +kernel
theorem dX4_count_86 : decode cX4_count 86 = .ok (.ireturn, 1) := by decide +kernel
theorem dX4_count_87 : decode cX4_count 87 = .ok (.aload_n 0, 1) := by decide +kernel
theorem dX4_count_88 : decode cX4_count 88 = .ok (.getfield 10, 3) := by decide +kernel
theorem dX4_count_91 : decode cX4_count 91 = .ok (.getfield 208, 3) := by decide +kernel
theorem dX4_count_94 : decode cX4_count 94 = .ok (.ireturn, 1) := by decide +kernel
theorem dX4_count_95 : decode cX4_count 95 = .ok (.aload_n 0, 1) := by decide +kernel
theorem dX4_count_96 : decode cX4_count 96 = .ok (.getfield 10, 3) := by decide +kernel
theorem dX4_count_99 : decode cX4_count 99 = .ok (.getfield 112, 3) := by decide +kernel
theorem dX4_count_102 : decode cX4_count 102 = .ok (.ireturn, 1) := by decide +kernel
theorem dX4_count_103 : decode cX4_count 103 = .ok (.aload_n 0, 1) := by decide +kernel
theorem dX4_count_104 : decode cX4_count 104 = .ok (.getfield 10, 3) := by decide +kernel
theorem dX4_count_107 : decode cX4_count 107 = .ok (.getfield 211, 3) := by decide +kernel
theorem dX4_count_110 : decode cX4_count 110 = .ok (.ireturn, 1) := by decide +kernel
theorem dX4_count_111 : decode cX4_count 111 = .ok (.aload_n 0, 1) := by decide +kernel
theorem dX4_count_112 : decode cX4_count 112 = .ok (.getfield 20, 3) := by decide +kernel
theorem dX4_count_115 : decode cX4_count 115 = .ok (.ireturn, 1) := by decide +kernel
theorem dX4_setting_0 : decode cX4_setting 0 = .ok (.iload_n 1, 1) := by decide +kernel
theorem dX4_setting_1 : decode cX4_setting 1 = .ok (.iconst 4, 1) := by decide +kernel
theorem dX4_setting_2 : decode cX4_setting 2 = .ok (.invokestatic 79, 3) := by decide +kernel
theorem dX4_setting_5 : decode cX4_setting 5 = .ok (.aload_n 0, 1) := by decide +kernel
theorem dX4_setting_6 : decode cX4_setting 6 = .ok (.getfield 10, 3) := by decide +kernel
theorem dX4_setting_9 : decode cX4_setting 9 = .ok (.getfield 92, 3) := by decide +kernel
theorem dX4_setting_12 : decode cX4_setting 12 = .ok (.iload_n 1, 1) := by decide +kernel
theorem dX4_setting_13 : decode cX4_setting 13 = .ok (.iaload, 1) := by decide +kernel
theorem dX4_setting_14 : decode cX4_setting 14 = .ok (.ireturn, 1) := by decide +kernel
theorem dX4_text_0 : decode cX4_text 0 = .ok (.iload_n 1, 1) := by decide +kernel
theorem dX4_text_1 : decode cX4_text 1 = .ok (.iconst 0, 1) := by decide +kernel
theorem dX4_text_2 : decode cX4_text 2 = .ok (.iconst 5, 1) := by decide +kernel
theorem dX4_text_3 : decode cX4_text 3 = .ok (.invokestatic 60, 3) := by decide +kernel
theorem dX4_text_6 : decode cX4_text 6 = .ok (.aload_n 0, 1) := by decide +kernel
theorem dX4_text_7 : decode cX4_text 7 = .ok (.getfield 34, 3) := by decide +kernel
theorem dX4_text_10 : decode cX4_text 10 = .ok (.invokevirtual 132, 3) := by decide +kernel
theorem dX4_text_13 : decode cX4_text 13 = .ok (.ifCond .ne 5, 3) := by decide +kernel
theorem dX4_text_16 : decode cX4_text 16 = .ok (.iconst (-1), 1) := by decide +kernel
theorem dX4_text_17 : decode cX4_text 17 = .ok (.ireturn, 1) := by decide +kernel
theorem dX4_text_18 : decode cX4_text 18 = .ok (.aload_n 0, 1) := by decide +kernel
theorem dX4_text_19 : decode cX4_text 19 = .ok (.getfield 52, 3) := by decide +kernel
theorem dX4_text_22 : decode cX4_text 22 = .ok (.aload_n 0, 1) := by decide +kernel
theorem dX4_text_23 : decode cX4_text 23 = .ok (.getfield 10, 3) := by decide +kernel
theorem dX4_text_26 : decode cX4_text 26 = .ok (.aload_n 0, 1) := by decide +kernel
theorem dX4_text_27 : decode cX4_text 27 = .ok (.getfield 34, 3) := by decide +kernel
theorem dX4_text_30 : decode cX4_text 30 = .ok (.invokevirtual 214, 3) := by decide +kernel
theorem dX4_text_33 : decode cX4_text 33 = .ok (.iload_n 1, 1) := by decide +kernel
theorem dX4_text_34 : decode cX4_text 34 = .ok (.tableswitch 94 0 4 #[34, 50, 66, 74, 82], 34) := by decide +kernel
theorem dX4_text_68 : decode cX4_text 68 = .ok (.aload_n 0, 1) := by decide +kernel
theorem dX4_text_69 : decode cX4_text 69 = .ok (.getfield 52, 3) := by decide +kernel
theorem dX4_text_72 : decode cX4_text 72 = .ok (.aload_n 0, 1) := by decide +kernel
theorem dX4_text_73 : decode cX4_text 73 = .ok (.getfield 10, 3) := by decide +kernel
theorem dX4_text_76 : decode cX4_text 76 = .ok (.aload_n 0, 1) := by decide +kernel
theorem dX4_text_77 : decode cX4_text 77 = .ok (.getfield 34, 3) := by decide +kernel
theorem dX4_text_80 : decode cX4_text 80 = .ok (.invokevirtual 218, 3) := by decide +kernel
theorem dX4_text_83 : decode cX4_text 83 = .ok (.ireturn, 1) := by decide +kernel
theorem dX4_text_84 : decode cX4_text 84 = .ok (.aload_n 0, 1) := by decide +kernel
theorem dX4_text_85 : decode cX4_text 85 = .ok (.getfield 52, 3) := by decide +kernel
theorem dX4_text_88 : decode cX4_text 88 = .ok (.aload_n 0, 1) := by decide +kernel
theorem dX4_text_89 : decode cX4_text 89 = .ok (.getfield 10, 3) := by decide +kernel
theorem dX4_text_92 : decode cX4_text 92 = .ok (.aload_n 0, 1) := by decide +kernel
theorem dX4_text_93 : decode cX4_text 93 = .ok (.getfield 34, 3) := by decide +kernel
theorem dX4_text_96 : decode cX4_text 96 = .ok (.invokevirtual 222, 3) := by decide +kernel
theorem dX4_text_99 : decode cX4_text 99 = .ok (.ireturn, 1) := by decide +kernel
theorem dX4_text_100 : decode cX4_text 100 = .ok (.aload_n 0, 1) := by decide +kernel
theorem dX4_text_101 : decode cX4_text 101 = .ok (.getfield 52, 3) := by decide +kernel
theorem dX4_text_104 : decode cX4_text 104 = .ok (.getfield 225, 3) := by decide +kernel
theorem dX4_text_107 : decode cX4_text 107 = .ok (.ireturn, 1) := by decide +kernel
theorem dX4_text_108 : decode cX4_text 108 = .ok (.aload_n 0, 1) := by decide +kernel
theorem dX4_text_109 : decode cX4_text 109 = .ok (.getfield 52, 3) := by decide +kernel
theorem dX4_text_112 : decode cX4_text 112 = .ok (.invokevirtual 228, 3) := by decide +kernel
theorem dX4_text_115 : decode cX4_text 115 = .ok (.ireturn, 1) := by decide +kernel
theorem dX4_text_116 : decode cX4_text 116 = .ok (.aload_n 0, 1) := by decide +kernel
theorem dX4_text_117 : decode cX4_text 117 = .ok (.getfield 52, 3) := by decide +kernel
theorem dX4_text_120 : decode cX4_text 120 = .ok (.aload_n 0, 1) := by decide +kernel
theorem dX4_text_121 : decode cX4_text 121 = .ok (.getfield 10, 3) := by decide +kernel
theorem dX4_text_124 : decode cX4_text 124 = .ok (.invokevirtual 231, 3) := by decide +kernel
theorem dX4_text_127 : decode cX4_text 127 = .ok (.ireturn, 1) := by decide +kernel
theorem dX4_text_128 : decode cX4_text 128 = .ok (.aload_n 0, 1) := by decide +kernel
theorem dX4_text_129 : decode cX4_text 129 = .ok (.getfield 52, 3) := by decide +kernel
theorem dX4_text_132 : decode cX4_text 132 = .ok (.aload_n 0, 1) := by decide +kernel
theorem dX4_text_133 : decode cX4_text 133 = .ok (.getfield 10, 3) := by decide +kernel
theorem dX4_text_136 : decode cX4_text 136 = .ok (.invokevirtual 235, 3) := by decide +kernel
theorem dX4_text_139 : decode cX4_text 139 = .ok (.ireturn, 1) := by decide +kernel
theorem dX4_ifCircled_0 : decode cX4_ifCircled 0 = .ok (.iload_n 1, 1) := by decide +kernel
theorem dX4_ifCircled_1 : decode cX4_ifCircled 1 = .ok (.invokestatic 56, 3) := by decide +kernel
theorem dX4_ifCircled_4 : decode cX4_ifCircled 4 = .ok (.iload_n 2, 1) := by decide +kernel
theorem dX4_ifCircled_5 : decode cX4_ifCircled 5 = .ok (.invokestatic 56, 3) := by decide +kernel
theorem dX4_ifCircled_8 : decode cX4_ifCircled 8 = .ok (.iload_n 3, 1) := by decide +kernel
theorem dX4_ifCircled_9 : decode cX4_ifCircled 9 = .ok (.invokestatic 95, 3) := by decide +kernel
theorem dX4_ifCircled_12 : decode cX4_ifCircled 12 = .ok (.aload_n 0, 1) := by decide +kernel
theorem dX4_ifCircled_13 : decode cX4_ifCircled 13 = .ok (.getfield 10, 3) := by decide +kernel
theorem dX4_ifCircled_16 : decode cX4_ifCircled 16 = .ok (.getfield 102, 3) := by decide +kernel
theorem dX4_ifCircled_19 : decode cX4_ifCircled 19 = .ok (.bipush 40, 2) := by decide +kernel
theorem dX4_ifCircled_21 : decode cX4_ifCircled 21 = .ok (.if_icmp .lt 5, 3) := by decide +kernel
theorem dX4_ifCircled_24 : decode cX4_ifCircled 24 = .ok (.iconst (-1), 1) := by decide +kernel
theorem dX4_ifCircled_25 : decode cX4_ifCircled 25 = .ok (.ireturn, 1) := by decide +kernel
theorem dX4_ifCircled_26 : decode cX4_ifCircled 26 = .ok (.bipush 10, 2) := by decide +kernel
theorem dX4_ifCircled_28 : decode cX4_ifCircled 28 = .ok (.iload_n 1, 1) := by decide +kernel
theorem dX4_ifCircled_29 : decode cX4_ifCircled 29 = .ok (.imul, 1) := by decide +kernel
theorem dX4_ifCircled_30 : decode cX4_ifCircled 30 = .ok (.iload_n 2, 1) := by decide +kernel
theorem dX4_ifCircled_31 : decode cX4_ifCircled 31 = .ok (.iadd, 1) := by decide +kernel
theorem dX4_ifCircled_32 : decode cX4_ifCircled 32 = .ok (.istore 4, 2) := by decide +kernel
theorem dX4_ifCircled_34 : decode cX4_ifCircled 34 = .ok (.aload_n 0, 1) := by decide +kernel
theorem dX4_ifCircled_35 : decode cX4_ifCircled 35 = .ok (.getfield 41, 3) := by decide +kernel
theorem dX4_ifCircled_38 : decode cX4_ifCircled 38 = .ok (.aload_n 0, 1) := by decide +kernel
theorem dX4_ifCircled_39 : decode cX4_ifCircled 39 = .ok (.getfield 10, 3) := by decide +kernel
theorem dX4_ifCircled_42 : decode cX4_ifCircled 42 = .ok (.getfield 161, 3) := by decide +kernel
theorem dX4_ifCircled_45 : decode cX4_ifCircled 45 = .ok (.invokevirtual 238, 3) := by decide +kernel
theorem dX4_ifCircled_48 : decode cX4_ifCircled 48 = .ok (.aload_n 0, 1) := by decide +kernel
theorem dX4_ifCircled_49 : decode cX4_ifCircled 49 = .ok (.getfield 41, 3) := by decide +kernel
theorem dX4_ifCircled_52 : decode cX4_ifCircled 52 = .ok (.aload_n 0, 1) := by decide +kernel
theorem dX4_ifCircled_53 : decode cX4_ifCircled 53 = .ok (.getfield 10, 3) := by decide +kernel
theorem dX4_ifCircled_56 : decode cX4_ifCircled 56 = .ok (.iload 4, 2) := by decide +kernel
theorem dX4_ifCircled_58 : decode cX4_ifCircled 58 = .ok (.iload_n 3, 1) := by decide +kernel
theorem dX4_ifCircled_59 : decode cX4_ifCircled 59 = .ok (.invokevirtual 241, 3) := by decide +kernel
theorem dX4_ifCircled_62 : decode cX4_ifCircled 62 = .ok (.ifCond .ne 7, 3) := by decide +kernel
theorem dX4_ifCircled_65 : decode cX4_ifCircled 65 = .ok (.iconst 1, 1) := by decide +kernel
theorem dX4_ifCircled_66 : decode cX4_ifCircled 66 = .ok (.goto 4, 3) := by decide +kernel
theorem dX4_ifCircled_69 : decode cX4_ifCircled 69 = .ok (.iconst 0, 1) := by decide +kernel
theorem dX4_ifCircled_70 : decode cX4_ifCircled 70 = .ok (.istore 5, 2) := by decide +kernel
theorem dX4_ifCircled_72 : decode cX4_ifCircled 72 = .ok (.iload 5, 2) := by decide +kernel
theorem dX4_ifCircled_74 : decode cX4_ifCircled 74 = .ok (.ifCond .eq 7, 3) := by decide +kernel
theorem dX4_ifCircled_77 : decode cX4_ifCircled 77 = .ok (.iconst (-1), 1) := by decide +kernel
theorem dX4_ifCircled_78 : decode cX4_ifCircled 78 = .ok (.goto 19, 3) := by decide +kernel
theorem dX4_ifCircled_81 : decode cX4_ifCircled 81 = .ok (.aload_n 0, 1) := by decide +kernel
theorem dX4_ifCircled_82 : decode cX4_ifCircled 82 = .ok (.getfield 41, 3) := by decide +kernel
theorem dX4_ifCircled_85 : decode cX4_ifCircled 85 = .ok (.aload_n 0, 1) := by decide +kernel
theorem dX4_ifCircled_86 : decode cX4_ifCircled 86 = .ok (.getfield 10, 3) := by decide +kernel
theorem dX4_ifCircled_89 : decode cX4_ifCircled 89 = .ok (.iload 4, 2) := by decide +kernel
theorem dX4_ifCircled_91 : decode cX4_ifCircled 91 = .ok (.invokevirtual 164, 3) := by decide +kernel
theorem dX4_ifCircled_94 : decode cX4_ifCircled 94 = .ok (.bipush 100, 2) := by decide +kernel
theorem dX4_ifCircled_96 : decode cX4_ifCircled 96 = .ok (.iadd, 1) := by decide +kernel
theorem dX4_ifCircled_97 : decode cX4_ifCircled 97 = .ok (.ireturn, 1) := by decide +kernel
theorem dX4_ifForgotten_0 : decode cX4_ifForgotten 0 = .ok (.iload_n 1, 1) := by decide +kernel
theorem dX4_ifForgotten_1 : decode cX4_ifForgotten 1 = .ok (.aload_n 0, 1) := by decide +kernel
theorem dX4_ifForgotten_2 : decode cX4_ifForgotten 2 = .ok (.getfield 10, 3) := by decide +kernel
theorem dX4_ifForgotten_5 : decode cX4_ifForgotten 5 = .ok (.getfield 102, 3) := by decide +kernel
theorem dX4_ifForgotten_8 : decode cX4_ifForgotten 8 = .ok (.invokestatic 79, 3) := by decide +kernel
theorem dX4_ifForgotten_11 : decode cX4_ifForgotten 11 = .ok (.aload_n 0, 1) := by decide +kernel
theorem dX4_ifForgotten_12 : decode cX4_ifForgotten 12 = .ok (.iload_n 1, 1) := by decide +kernel
theorem dX4_ifForgotten_13 : decode cX4_ifForgotten 13 = .ok (.invokevirtual 105, 3) := by decide +kernel
theorem dX4_ifForgotten_16 : decode cX4_ifForgotten 16 = .ok (.ireturn, 1) := by decide +kernel
theorem dX4_mainLesson_0 : decode cX4_mainLesson 0 = .ok (.aload_n 0, 1) := by decide +kernel
theorem dX4_mainLesson_1 : decode cX4_mainLesson 1 = .ok (.invokevirtual 245, 3) := by decide +kernel
theorem dX4_mainLesson_4 : decode cX4_mainLesson 4 = .ok (.aload_n 0, 1) := by decide +kernel
theorem dX4_mainLesson_5 : decode cX4_mainLesson 5 = .ok (.invokevirtual 248, 3) := by decide +kernel
theorem dX4_mainLesson_8 : decode cX4_mainLesson 8 = .ok (.ireturn, 1) := by decide +kernel
theorem dX4_tightShare_0 : decode cX4_tightShare 0 = .ok (.iconst 0, 1) := by decide +kernel
theorem dX4_tightShare_1 : decode cX4_tightShare 1 = .ok (.istore_n 1, 1) := by decide +kernel
theorem dX4_tightShare_2 : decode cX4_tightShare 2 = .ok (.iconst 0, 1) := by decide +kernel
theorem dX4_tightShare_3 : decode cX4_tightShare 3 = .ok (.istore_n 2, 1) := by decide +kernel
theorem dX4_tightShare_4 : decode cX4_tightShare 4 = .ok (.iload_n 2, 1) := by decide +kernel
theorem dX4_tightShare_5 : decode cX4_tightShare 5 = .ok (.bipush 100, 2) := by decide +kernel
theorem dX4_tightShare_7 : decode cX4_tightShare 7 = .ok (.if_icmp .ge 30, 3) := by decide +kernel
theorem dX4_tightShare_10 : decode cX4_tightShare 10 = .ok (.aload_n 0, 1) := by decide +kernel
theorem dX4_tightShare_11 : decode cX4_tightShare 11 = .ok (.getfield 10, 3) := by decide +kernel
theorem dX4_tightShare_14 : decode cX4_tightShare 14 = .ok (.getfield 161, 3) := by decide +kernel
theorem dX4_tightShare_17 : decode cX4_tightShare 17 = .ok (.aload_n 0, 1) := by decide +kernel
theorem dX4_tightShare_18 : decode cX4_tightShare 18 = .ok (.getfield 10, 3) := by decide +kernel
theorem dX4_tightShare_21 : decode cX4_tightShare 21 = .ok (.iload_n 2, 1) := by decide +kernel
theorem dX4_tightShare_22 : decode cX4_tightShare 22 = .ok (.invokevirtual 164, 3) := by decide +kernel
theorem dX4_tightShare_25 : decode cX4_tightShare 25 = .ok (.ifCond .ge 6, 3) := by decide +kernel
theorem dX4_tightShare_28 : decode cX4_tightShare 28 = .ok (.iinc 1 1, 3) := by decide +kernel
theorem dX4_tightShare_31 : decode cX4_tightShare 31 = .ok (.iinc 2 1, 3) := by decide +kernel
theorem dX4_tightShare_34 : decode cX4_tightShare 34 = .ok (.goto (-30), 3) := by decide +kernel
theorem dX4_tightShare_37 : decode cX4_tightShare 37 = .ok (.iload_n 1, 1) := by decide +kernel
theorem dX4_tightShare_38 : decode cX4_tightShare 38 = .ok (.i2d, 1) := by decide +kernel
theorem dX4_tightShare_39 : decode cX4_tightShare 39 = .ok (.ldc2_w 251, 3) := by decide +kernel
theorem dX4_tightShare_42 : decode cX4_tightShare 42 = .ok (.ddiv, 1) := by decide +kernel
theorem dX4_tightShare_43 : decode cX4_tightShare 43 = .ok (.dreturn, 1) := by decide +kernel
theorem dX4_digest_0 : decode cX4_digest 0 = .ok (.aload_n 0, 1) := by decide +kernel
theorem dX4_digest_1 : decode cX4_digest 1 = .ok (.invokevirtual 245, 3) := by decide +kernel
theorem dX4_digest_4 : decode cX4_digest 4 = .ok (.ldc2_w 253, 3) := by decide +kernel
theorem dX4_digest_7 : decode cX4_digest 7 = .ok (.lstore_n 1, 1) := by decide +kernel
theorem dX4_digest_8 : decode cX4_digest 8 = .ok (.aload_n 0, 1) := by decide +kernel
theorem dX4_digest_9 : decode cX4_digest 9 = .ok (.lload_n 1, 1) := by decide +kernel
theorem dX4_digest_10 : decode cX4_digest 10 = .ok (.invokevirtual 255, 3) := by decide +kernel
theorem dX4_digest_13 : decode cX4_digest 13 = .ok (.lstore_n 1, 1) := by decide +kernel
theorem dX4_digest_14 : decode cX4_digest 14 = .ok (.aload_n 0, 1) := by decide +kernel
theorem dX4_digest_15 : decode cX4_digest 15 = .ok (.lload_n 1, 1) := by decide +kernel
theorem dX4_digest_16 : decode cX4_digest 16 = .ok (.invokevirtual 259, 3) := by decide +kernel
theorem dX4_digest_19 : decode cX4_digest 19 = .ok (.lstore_n 1, 1) := by decide +kernel
theorem dX4_digest_20 : decode cX4_digest 20 = .ok (.aload_n 0, 1) := by decide +kernel
theorem dX4_digest_21 : decode cX4_digest 21 = .ok (.lload_n 1, 1) := by decide +kernel
theorem dX4_digest_22 : decode cX4_digest 22 = .ok (.invokevirtual 262, 3) := by decide +kernel
theorem dX4_digest_25 : decode cX4_digest 25 = .ok (.lstore_n 1, 1) := by decide +kernel
theorem dX4_digest_26 : decode cX4_digest 26 = .ok (.aload_n 0, 1) := by decide +kernel
theorem dX4_digest_27 : decode cX4_digest 27 = .ok (.lload_n 1, 1) := by decide +kernel
theorem dX4_digest_28 : decode cX4_digest 28 = .ok (.invokevirtual 265, 3) := by decide +kernel
theorem dX4_digest_31 : decode cX4_digest 31 = .ok (.lstore_n 1, 1) := by decide +kernel
theorem dX4_digest_32 : decode cX4_digest 32 = .ok (.aload_n 0, 1) := by decide +kernel
theorem dX4_digest_33 : decode cX4_digest 33 = .ok (.lload_n 1, 1) := by decide +kernel
theorem dX4_digest_34 : decode cX4_digest 34 = .ok (.invokevirtual 268, 3) := by decide +kernel
theorem dX4_digest_37 : decode cX4_digest 37 = .ok (.lstore_n 1, 1) := by decide +kernel
theorem dX4_digest_38 : decode cX4_digest 38 = .ok (.iconst 0, 1) := by decide +kernel
theorem dX4_digest_39 : decode cX4_digest 39 = .ok (.istore_n 3, 1) := by decide +kernel
theorem dX4_digest_40 : decode cX4_digest 40 = .ok (.iload_n 3, 1) := by decide +kernel
theorem dX4_digest_41 : decode cX4_digest 41 = .ok (.bipush 6, 2) := by decide +kernel
theorem dX4_digest_43 : decode cX4_digest 43 = .ok (.if_icmp .ge 20, 3) := by decide +kernel
theorem dX4_digest_46 : decode cX4_digest 46 = .ok (.lload_n 1, 1) := by decide +kernel
theorem dX4_digest_47 : decode cX4_digest 47 = .ok (.aload_n 0, 1) := by decide +kernel
theorem dX4_digest_48 : decode cX4_digest 48 = .ok (.iload_n 3, 1) := by decide +kernel
theorem dX4_digest_49 : decode cX4_digest 49 = .ok (.invokevirtual 271, 3) := by decide +kernel
theorem dX4_digest_52 : decode cX4_digest 52 = .ok (.i2l, 1) := by decide +kernel
theorem dX4_digest_53 : decode cX4_digest 53 = .ok (.invokestatic 274, 3) := by decide +kernel
theorem dX4_digest_56 : decode cX4_digest 56 = .ok (.lstore_n 1, 1) := by decide +kernel
theorem dX4_digest_57 : decode cX4_digest 57 = .ok (.iinc 3 1, 3) := by decide +kernel
theorem dX4_digest_60 : decode cX4_digest 60 = .ok (.goto (-20), 3) := by decide +kernel
theorem dX4_digest_63 : decode cX4_digest 63 = .ok (.lload_n 1, 1) := by decide +kernel
theorem dX4_digest_64 : decode cX4_digest 64 = .ok (.aload_n 0, 1) := by decide +kernel
theorem dX4_digest_65 : decode cX4_digest 65 = .ok (.invokevirtual 248, 3) := by decide +kernel
theorem dX4_digest_68 : decode cX4_digest 68 = .ok (.i2l, 1) := by decide +kernel
theorem dX4_digest_69 : decode cX4_digest 69 = .ok (.invokestatic 274, 3) := by decide +kernel
theorem dX4_digest_72 : decode cX4_digest 72 = .ok (.lstore_n 1, 1) := by decide +kernel
theorem dX4_digest_73 : decode cX4_digest 73 = .ok (.lload_n 1, 1) := by decide +kernel
theorem dX4_digest_74 : decode cX4_digest 74 = .ok (.aload_n 0, 1) := by decide +kernel
theorem dX4_digest_75 : decode cX4_digest 75 = .ok (.invokevirtual 278, 3) := by decide +kernel
theorem dX4_digest_78 : decode cX4_digest 78 = .ok (.invokestatic 282, 3) := by decide +kernel
theorem dX4_digest_81 : decode cX4_digest 81 = .ok (.invokestatic 274, 3) := by decide +kernel
theorem dX4_digest_84 : decode cX4_digest 84 = .ok (.lstore_n 1, 1) := by decide +kernel
theorem dX4_digest_85 : decode cX4_digest 85 = .ok (.iconst 0, 1) := by decide +kernel
theorem dX4_digest_86 : decode cX4_digest 86 = .ok (.istore_n 3, 1) := by decide +kernel
theorem dX4_digest_87 : decode cX4_digest 87 = .ok (.iload_n 3, 1) := by decide +kernel
theorem dX4_digest_88 : decode cX4_digest 88 = .ok (.iconst 2, 1) := by decide +kernel
theorem dX4_digest_89 : decode cX4_digest 89 = .ok (.if_icmp .ge 28, 3) := by decide +kernel
theorem dX4_digest_92 : decode cX4_digest 92 = .ok (.lload_n 1, 1) := by decide +kernel
theorem dX4_digest_93 : decode cX4_digest 93 = .ok (.aload_n 0, 1) := by decide +kernel
theorem dX4_digest_94 : decode cX4_digest 94 = .ok (.getfield 27, 3) := by decide +kernel
theorem dX4_digest_97 : decode cX4_digest 97 = .ok (.iload_n 3, 1) := by decide +kernel
theorem dX4_digest_98 : decode cX4_digest 98 = .ok (.baload, 1) := by decide +kernel
theorem dX4_digest_99 : decode cX4_digest 99 = .ok (.ifCond .eq 7, 3) := by decide +kernel
theorem dX4_digest_102 : decode cX4_digest 102 = .ok (.lconst 1, 1) := by decide +kernel
theorem dX4_digest_103 : decode cX4_digest 103 = .ok (.goto 4, 3) := by decide +kernel
theorem dX4_digest_106 : decode cX4_digest 106 = .ok (.lconst 0, 1) := by decide +kernel
theorem dX4_digest_107 : decode cX4_digest 107 = .ok (.invokestatic 274, 3) := by decide +kernel
theorem dX4_digest_110 : decode cX4_digest 110 = .ok (.lstore_n 1, 1) := by decide +kernel
theorem dX4_digest_111 : decode cX4_digest 111 = .ok (.iinc 3 1, 3) := by decide +kernel
theorem dX4_digest_114 : decode cX4_digest 114 = .ok (.goto (-27), 3) := by decide +kernel
theorem dX4_digest_117 : decode cX4_digest 117 = .ok (.lload_n 1, 1) := by decide +kernel
theorem dX4_digest_118 : decode cX4_digest 118 = .ok (.aload_n 0, 1) := by decide +kernel
theorem dX4_digest_119 : decode cX4_digest 119 = .ok (.getfield 34, 3) := by decide +kernel
theorem dX4_digest_122 : decode cX4_digest 122 = .ok (.getfield 115, 3) := by decide +kernel
theorem dX4_digest_125 : decode cX4_digest 125 = .ok (.i2l, 1) := by decide +kernel
theorem dX4_digest_126 : decode cX4_digest 126 = .ok (.invokestatic 274, 3) := by decide +kernel
theorem dX4_digest_129 : decode cX4_digest 129 = .ok (.lstore_n 1, 1) := by decide +kernel
theorem dX4_digest_130 : decode cX4_digest 130 = .ok (.iconst 0, 1) := by decide +kernel
theorem dX4_digest_131 : decode cX4_digest 131 = .ok (.istore_n 3, 1) := by decide +kernel
theorem dX4_digest_132 : decode cX4_digest 132 = .ok (.iload_n 3, 1) := by decide +kernel
theorem dX4_digest_133 : decode cX4_digest 133 = .ok (.aload_n 0, 1) := by decide +kernel
theorem dX4_digest_134 : decode cX4_digest 134 = .ok (.getfield 34, 3) := by decide +kernel
theorem dX4_digest_137 : decode cX4_digest 137 = .ok (.getfield 115, 3) := by decide +kernel
theorem dX4_digest_140 : decode cX4_digest 140 = .ok (.if_icmp .ge 24, 3) := by decide +kernel
theorem dX4_digest_143 : decode cX4_digest 143 = .ok (.lload_n 1, 1) := by decide +kernel
theorem dX4_digest_144 : decode cX4_digest 144 = .ok (.aload_n 0, 1) := by decide +kernel
theorem dX4_digest_145 : decode cX4_digest 145 = .ok (.getfield 34, 3) := by decide +kernel
theorem dX4_digest_148 : decode cX4_digest 148 = .ok (.getfield 125, 3) := by decide +kernel
theorem dX4_digest_151 : decode cX4_digest 151 = .ok (.iload_n 3, 1) := by decide +kernel
theorem dX4_digest_152 : decode cX4_digest 152 = .ok (.iaload, 1) := by decide +kernel
theorem dX4_digest_153 : decode cX4_digest 153 = .ok (.i2l, 1) := by decide +kernel
theorem dX4_digest_154 : decode cX4_digest 154 = .ok (.invokestatic 274, 3) := by decide +kernel
theorem dX4_digest_157 : decode cX4_digest 157 = .ok (.lstore_n 1, 1) := by decide +kernel
theorem dX4_digest_158 : decode cX4_digest 158 = .ok (.iinc 3 1, 3) := by decide +kernel
theorem dX4_digest_161 : decode cX4_digest 161 = .ok (.goto (-29), 3) := by decide +kernel
theorem dX4_digest_164 : decode cX4_digest 164 = .ok (.lload_n 1, 1) := by decide +kernel
theorem dX4_digest_165 : decode cX4_digest 165 = .ok (.lreturn, 1) := by decide +kernel
theorem dX4_checkLetter_0 : decode cX4_checkLetter 0 = .ok (.iload_n 0, 1) := by decide +kernel
theorem dX4_checkLetter_1 : decode cX4_checkLetter 1 = .ok (.bipush 10, 2) := by decide +kernel
theorem dX4_checkLetter_3 : decode cX4_checkLetter 3 = .ok (.invokestatic 79, 3) := by decide +kernel
theorem dX4_checkLetter_6 : decode cX4_checkLetter 6 = .ok (.return_, 1) := by decide +kernel
theorem dX4_checkIndex_0 : decode cX4_checkIndex 0 = .ok (.iload_n 0, 1) := by decide +kernel
theorem dX4_checkIndex_1 : decode cX4_checkIndex 1 = .ok (.ifCond .lt 8, 3) := by decide +kernel
theorem dX4_checkIndex_4 : decode cX4_checkIndex 4 = .ok (.iload_n 0, 1) := by decide +kernel
theorem dX4_checkIndex_5 : decode cX4_checkIndex 5 = .ok (.iload_n 1, 1) := by decide +kernel
theorem dX4_checkIndex_6 : decode cX4_checkIndex 6 = .ok (.if_icmp .lt 14, 3) := by decide +kernel
theorem dX4_checkIndex_9 : decode cX4_checkIndex 9 = .ok (.new 142, 3) := by decide +kernel
theorem dX4_checkIndex_12 : decode cX4_checkIndex 12 = .ok (.dup, 1) := by decide +kernel
theorem dX4_checkIndex_13 : decode cX4_checkIndex 13 = .ok (.ldc_w 286, 3) := by decide +kernel
theorem dX4_checkIndex_16 : decode cX4_checkIndex 16 = .ok (.invokespecial 146, 3) := by decide +kernel
theorem dX4_checkIndex_19 : decode cX4_checkIndex 19 = .ok (.athrow, 1) := by decide +kernel
theorem dX4_checkIndex_20 : decode cX4_checkIndex 20 = .ok (.return_, 1) := by decide +kernel
theorem dX4_checkRange_0 : decode cX4_checkRange 0 = .ok (.iload_n 0, 1) := by decide +kernel
theorem dX4_checkRange_1 : decode cX4_checkRange 1 = .ok (.iload_n 1, 1) := by decide +kernel
theorem dX4_checkRange_2 : decode cX4_checkRange 2 = .ok (.if_icmp .lt 8, 3) := by decide +kernel
theorem dX4_checkRange_5 : decode cX4_checkRange 5 = .ok (.iload_n 0, 1) := by decide +kernel
theorem dX4_checkRange_6 : decode cX4_checkRange 6 = .ok (.iload_n 2, 1) := by decide +kernel
theorem dX4_checkRange_7 : decode cX4_checkRange 7 = .ok (.if_icmp .le 14, 3) := by decide +kernel
theorem dX4_checkRange_10 : decode cX4_checkRange 10 = .ok (.new 288, 3) := by decide +kernel
theorem dX4_checkRange_13 : decode cX4_checkRange 13 = .ok (.dup, 1) := by decide +kernel
theorem dX4_checkRange_14 : decode cX4_checkRange 14 = .ok (.ldc_w 290, 3) := by decide +kernel
theorem dX4_checkRange_17 : decode cX4_checkRange 17 = .ok (.invokespecial 292, 3) := by decide +kernel
theorem dX4_checkRange_20 : decode cX4_checkRange 20 = .ok (.athrow, 1) := by decide +kernel
theorem dX4_checkRange_21 : decode cX4_checkRange 21 = .ok (.return_, 1) := by decide +kernel
theorem dX4_checkTold_0 : decode cX4_checkTold 0 = .ok (.iload_n 0, 1) := by decide +kernel
theorem dX4_checkTold_1 : decode cX4_checkTold 1 = .ok (.iconst 1, 1) := by decide +kernel
theorem dX4_checkTold_2 : decode cX4_checkTold 2 = .ok (.if_icmp .eq 19, 3) := by decide +kernel
theorem dX4_checkTold_5 : decode cX4_checkTold 5 = .ok (.iload_n 0, 1) := by decide +kernel
theorem dX4_checkTold_6 : decode cX4_checkTold 6 = .ok (.iconst (-1), 1) := by decide +kernel
theorem dX4_checkTold_7 : decode cX4_checkTold 7 = .ok (.if_icmp .eq 14, 3) := by decide +kernel
theorem dX4_checkTold_10 : decode cX4_checkTold 10 = .ok (.new 288, 3) := by decide +kernel
theorem dX4_checkTold_13 : decode cX4_checkTold 13 = .ok (.dup, 1) := by decide +kernel
theorem dX4_checkTold_14 : decode cX4_checkTold 14 = .ok (.ldc_w 293, 3) := by decide +kernel
theorem dX4_checkTold_17 : decode cX4_checkTold 17 = .ok (.invokespecial 292, 3) := by decide +kernel
theorem dX4_checkTold_20 : decode cX4_checkTold 20 = .ok (.athrow, 1) := by decide +kernel
theorem dX4_checkTold_21 : decode cX4_checkTold 21 = .ok (.return_, 1) := by decide +kernel
theorem dX4_saveState_0 : decode cX4_saveState 0 = .ok (.aload_n 0, 1) := by decide +kernel
theorem dX4_saveState_1 : decode cX4_saveState 1 = .ok (.getfield 20, 3) := by decide +kernel
theorem dX4_saveState_4 : decode cX4_saveState 4 = .ok (.bipush 6, 2) := by decide +kernel
theorem dX4_saveState_6 : decode cX4_saveState 6 = .ok (.if_icmp .lt 50, 3) := by decide +kernel
theorem dX4_saveState_9 : decode cX4_saveState 9 = .ok (.aload_n 0, 1) := by decide +kernel
theorem dX4_saveState_10 : decode cX4_saveState 10 = .ok (.getfield 16, 3) := by decide +kernel
theorem dX4_saveState_13 : decode cX4_saveState 13 = .ok (.iconst 0, 1) := by decide +kernel
theorem dX4_saveState_14 : decode cX4_saveState 14 = .ok (.aaload, 1) := by decide +kernel
theorem dX4_saveState_15 : decode cX4_saveState 15 = .ok (.astore_n 1, 1) := by decide +kernel
theorem dX4_saveState_16 : decode cX4_saveState 16 = .ok (.iconst 1, 1) := by decide +kernel
theorem dX4_saveState_17 : decode cX4_saveState 17 = .ok (.istore_n 2, 1) := by decide +kernel
theorem dX4_saveState_18 : decode cX4_saveState 18 = .ok (.iload_n 2, 1) := by decide +kernel
theorem dX4_saveState_19 : decode cX4_saveState 19 = .ok (.bipush 6, 2) := by decide +kernel
theorem dX4_saveState_21 : decode cX4_saveState 21 = .ok (.if_icmp .ge 23, 3) := by decide +kernel
theorem dX4_saveState_24 : decode cX4_saveState 24 = .ok (.aload_n 0, 1) := by decide +kernel
theorem dX4_saveState_25 : decode cX4_saveState 25 = .ok (.getfield 16, 3) := by decide +kernel
theorem dX4_saveState_28 : decode cX4_saveState 28 = .ok (.iload_n 2, 1) := by decide +kernel
theorem dX4_saveState_29 : decode cX4_saveState 29 = .ok (.iconst 1, 1) := by decide +kernel
theorem dX4_saveState_30 : decode cX4_saveState 30 = .ok (.isub, 1) := by decide +kernel
theorem dX4_saveState_31 : decode cX4_saveState 31 = .ok (.aload_n 0, 1) := by decide +kernel
theorem dX4_saveState_32 : decode cX4_saveState 32 = .ok (.getfield 16, 3) := by decide +kernel
theorem dX4_saveState_35 : decode cX4_saveState 35 = .ok (.iload_n 2, 1) := by decide +kernel
theorem dX4_saveState_36 : decode cX4_saveState 36 = .ok (.aaload, 1) := by decide +kernel
theorem dX4_saveState_37 : decode cX4_saveState 37 = .ok (.aastore, 1) := by decide +kernel
theorem dX4_saveState_38 : decode cX4_saveState 38 = .ok (.iinc 2 1, 3) := by decide +kernel
theorem dX4_saveState_41 : decode cX4_saveState 41 = .ok (.goto (-23), 3) := by decide +kernel
theorem dX4_saveState_44 : decode cX4_saveState 44 = .ok (.aload_n 0, 1) := by decide +kernel
theorem dX4_saveState_45 : decode cX4_saveState 45 = .ok (.getfield 16, 3) := by decide +kernel
theorem dX4_saveState_48 : decode cX4_saveState 48 = .ok (.iconst 5, 1) := by decide +kernel
theorem dX4_saveState_49 : decode cX4_saveState 49 = .ok (.aload_n 1, 1) := by decide +kernel
theorem dX4_saveState_50 : decode cX4_saveState 50 = .ok (.aastore, 1) := by decide +kernel
theorem dX4_saveState_51 : decode cX4_saveState 51 = .ok (.aload_n 0, 1) := by decide +kernel
theorem dX4_saveState_52 : decode cX4_saveState 52 = .ok (.iconst 5, 1) := by decide +kernel
theorem dX4_saveState_53 : decode cX4_saveState 53 = .ok (.putfield 20, 3) := by decide +kernel
theorem dX4_saveState_56 : decode cX4_saveState 56 = .ok (.aload_n 0, 1) := by decide +kernel
theorem dX4_saveState_57 : decode cX4_saveState 57 = .ok (.getfield 16, 3) := by decide +kernel
theorem dX4_saveState_60 : decode cX4_saveState 60 = .ok (.aload_n 0, 1) := by decide +kernel
theorem dX4_saveState_61 : decode cX4_saveState 61 = .ok (.getfield 20, 3) := by decide +kernel
theorem dX4_saveState_64 : decode cX4_saveState 64 = .ok (.aaload, 1) := by decide +kernel
theorem dX4_saveState_65 : decode cX4_saveState 65 = .ok (.aload_n 0, 1) := by decide +kernel
theorem dX4_saveState_66 : decode cX4_saveState 66 = .ok (.getfield 10, 3) := by decide +kernel
theorem dX4_saveState_69 : decode cX4_saveState 69 = .ok (.invokevirtual 150, 3) := by decide +kernel
theorem dX4_saveState_72 : decode cX4_saveState 72 = .ok (.aload_n 0, 1) := by decide +kernel
theorem dX4_saveState_73 : decode cX4_saveState 73 = .ok (.dup, 1) := by decide +kernel
theorem dX4_saveState_74 : decode cX4_saveState 74 = .ok (.getfield 20, 3) := by decide +kernel
theorem dX4_saveState_77 : decode cX4_saveState 77 = .ok (.iconst 1, 1) := by decide +kernel
theorem dX4_saveState_78 : decode cX4_saveState 78 = .ok (.iadd, 1) := by decide +kernel
theorem dX4_saveState_79 : decode cX4_saveState 79 = .ok (.putfield 20, 3) := by decide +kernel
theorem dX4_saveState_82 : decode cX4_saveState 82 = .ok (.return_, 1) := by decide +kernel
theorem dX4_learnCircle_0 : decode cX4_learnCircle 0 = .ok (.aload_n 0, 1) := by decide +kernel
theorem dX4_learnCircle_1 : decode cX4_learnCircle 1 = .ok (.invokevirtual 64, 3) := by decide +kernel
theorem dX4_learnCircle_4 : decode cX4_learnCircle 4 = .ok (.aload_n 0, 1) := by decide +kernel
theorem dX4_learnCircle_5 : decode cX4_learnCircle 5 = .ok (.getfield 10, 3) := by decide +kernel
theorem dX4_learnCircle_8 : decode cX4_learnCircle 8 = .ok (.getfield 102, 3) := by decide +kernel
theorem dX4_learnCircle_11 : decode cX4_learnCircle 11 = .ok (.bipush 40, 2) := by decide +kernel
theorem dX4_learnCircle_13 : decode cX4_learnCircle 13 = .ok (.if_icmp .ge 22, 3) := by decide +kernel
theorem dX4_learnCircle_16 : decode cX4_learnCircle 16 = .ok (.aload_n 0, 1) := by decide +kernel
theorem dX4_learnCircle_17 : decode cX4_learnCircle 17 = .ok (.getfield 10, 3) := by decide +kernel
theorem dX4_learnCircle_20 : decode cX4_learnCircle 20 = .ok (.getfield 161, 3) := by decide +kernel
theorem dX4_learnCircle_23 : decode cX4_learnCircle 23 = .ok (.aload_n 0, 1) := by decide +kernel
theorem dX4_learnCircle_24 : decode cX4_learnCircle 24 = .ok (.getfield 10, 3) := by decide +kernel
theorem dX4_learnCircle_27 : decode cX4_learnCircle 27 = .ok (.iload_n 1, 1) := by decide +kernel
theorem dX4_learnCircle_28 : decode cX4_learnCircle 28 = .ok (.iload_n 2, 1) := by decide +kernel
theorem dX4_learnCircle_29 : decode cX4_learnCircle 29 = .ok (.invokevirtual 241, 3) := by decide +kernel
theorem dX4_learnCircle_32 : decode cX4_learnCircle 32 = .ok (.ifCond .ne 18, 3) := by decide +kernel
theorem dX4_learnCircle_35 : decode cX4_learnCircle 35 = .ok (.aload_n 0, 1) := by decide +kernel
theorem dX4_learnCircle_36 : decode cX4_learnCircle 36 = .ok (.getfield 10, 3) := by decide +kernel
theorem dX4_learnCircle_39 : decode cX4_learnCircle 39 = .ok (.dup, 1) := by decide +kernel
theorem dX4_learnCircle_40 : decode cX4_learnCircle 40 = .ok (.getfield 208, 3) := by decide +kernel
theorem dX4_learnCircle_43 : decode cX4_learnCircle 43 = .ok (.iconst 1, 1) := by decide +kernel
theorem dX4_learnCircle_44 : decode cX4_learnCircle 44 = .ok (.iadd, 1) := by decide +kernel
theorem dX4_learnCircle_45 : decode cX4_learnCircle 45 = .ok (.putfield 208, 3) := by decide +kernel
theorem dX4_learnCircle_48 : decode cX4_learnCircle 48 = .ok (.iconst (-1), 1) := by decide +kernel
theorem dX4_learnCircle_49 : decode cX4_learnCircle 49 = .ok (.ireturn, 1) := by decide +kernel
theorem dX4_learnCircle_50 : decode cX4_learnCircle 50 = .ok (.aload_n 0, 1) := by decide +kernel
theorem dX4_learnCircle_51 : decode cX4_learnCircle 51 = .ok (.getfield 10, 3) := by decide +kernel
theorem dX4_learnCircle_54 : decode cX4_learnCircle 54 = .ok (.iload_n 1, 1) := by decide +kernel
theorem dX4_learnCircle_55 : decode cX4_learnCircle 55 = .ok (.iload_n 2, 1) := by decide +kernel
theorem dX4_learnCircle_56 : decode cX4_learnCircle 56 = .ok (.invokevirtual 295, 3) := by decide +kernel
theorem dX4_learnCircle_59 : decode cX4_learnCircle 59 = .ok (.aload_n 0, 1) := by decide +kernel
theorem dX4_learnCircle_60 : decode cX4_learnCircle 60 = .ok (.getfield 10, 3) := by decide +kernel
theorem dX4_learnCircle_63 : decode cX4_learnCircle 63 = .ok (.getfield 161, 3) := by decide +kernel
theorem dX4_learnCircle_66 : decode cX4_learnCircle 66 = .ok (.aload_n 0, 1) := by decide +kernel
theorem dX4_learnCircle_67 : decode cX4_learnCircle 67 = .ok (.getfield 10, 3) := by decide +kernel
theorem dX4_learnCircle_70 : decode cX4_learnCircle 70 = .ok (.iload_n 1, 1) := by decide +kernel
theorem dX4_learnCircle_71 : decode cX4_learnCircle 71 = .ok (.invokevirtual 164, 3) := by decide +kernel
theorem dX4_learnCircle_74 : decode cX4_learnCircle 74 = .ok (.bipush 100, 2) := by decide +kernel
theorem dX4_learnCircle_76 : decode cX4_learnCircle 76 = .ok (.iadd, 1) := by decide +kernel
theorem dX4_learnCircle_77 : decode cX4_learnCircle 77 = .ok (.ireturn, 1) := by decide +kernel
theorem dX4_pairsOtherwiseWithout_0 : decode cX4_pairsOtherwiseWithout 0 = .ok (.aload_n 0, 1) := by decide +kernel
theorem dX4_pairsOtherwiseWithout_1 : decode cX4_pairsOtherwiseWithout 1 = .ok (.getfield 41, 3) := by decide +kernel
theorem dX4_pairsOtherwiseWithout_4 : decode cX4_pairsOtherwiseWithout 4 = .ok (.aload_n 0, 1) := by decide +kernel
theorem dX4_pairsOtherwiseWithout_5 : decode cX4_pairsOtherwiseWithout 5 = .ok (.getfield 10, 3) := by decide +kernel
theorem dX4_pairsOtherwiseWithout_8 : decode cX4_pairsOtherwiseWithout 8 = .ok (.iload_n 1, 1) := by decide +kernel
theorem dX4_pairsOtherwiseWithout_9 : decode cX4_pairsOtherwiseWithout 9 = .ok (.invokevirtual 168, 3) := by decide +kernel
theorem dX4_pairsOtherwiseWithout_12 : decode cX4_pairsOtherwiseWithout 12 = .ok (.iconst 0, 1) := by decide +kernel
theorem dX4_pairsOtherwiseWithout_13 : decode cX4_pairsOtherwiseWithout 13 = .ok (.istore_n 2, 1) := by decide +kernel
theorem dX4_pairsOtherwiseWithout_14 : decode cX4_pairsOtherwiseWithout 14 = .ok (.iconst 0, 1) := by decide +kernel
theorem dX4_pairsOtherwiseWithout_15 : decode cX4_pairsOtherwiseWithout 15 = .ok (.istore_n 3, 1) := by decide +kernel
theorem dX4_pairsOtherwiseWithout_16 : decode cX4_pairsOtherwiseWithout 16 = .ok (.iload_n 3, 1) := by decide +kernel
theorem dX4_pairsOtherwiseWithout_17 : decode cX4_pairsOtherwiseWithout 17 = .ok (.bipush 100, 2) := by decide +kernel
theorem dX4_pairsOtherwiseWithout_19 : decode cX4_pairsOtherwiseWithout 19 = .ok (.if_icmp .ge 42, 3) := by decide +kernel
theorem dX4_pairsOtherwiseWithout_22 : decode cX4_pairsOtherwiseWithout 22 = .ok (.aload_n 0, 1) := by decide +kernel
theorem dX4_pairsOtherwiseWithout_23 : decode cX4_pairsOtherwiseWithout 23 = .ok (.getfield 41, 3) := by decide +kernel
theorem dX4_pairsOtherwiseWithout_26 : decode cX4_pairsOtherwiseWithout 26 = .ok (.aload_n 0, 1) := by decide +kernel
theorem dX4_pairsOtherwiseWithout_27 : decode cX4_pairsOtherwiseWithout 27 = .ok (.getfield 10, 3) := by decide +kernel
theorem dX4_pairsOtherwiseWithout_30 : decode cX4_pairsOtherwiseWithout 30 = .ok (.iload_n 3, 1) := by decide +kernel
theorem dX4_pairsOtherwiseWithout_31 : decode cX4_pairsOtherwiseWithout 31 = .ok (.invokevirtual 164, 3) := by decide +kernel
theorem dX4_pairsOtherwiseWithout_34 : decode cX4_pairsOtherwiseWithout 34 = .ok (.aload_n 0, 1) := by decide +kernel
theorem dX4_pairsOtherwiseWithout_35 : decode cX4_pairsOtherwiseWithout 35 = .ok (.getfield 10, 3) := by decide +kernel
theorem dX4_pairsOtherwiseWithout_38 : decode cX4_pairsOtherwiseWithout 38 = .ok (.getfield 161, 3) := by decide +kernel
theorem dX4_pairsOtherwiseWithout_41 : decode cX4_pairsOtherwiseWithout 41 = .ok (.aload_n 0, 1) := by decide +kernel
theorem dX4_pairsOtherwiseWithout_42 : decode cX4_pairsOtherwiseWithout 42 = .ok (.getfield 10, 3) := by decide +kernel
theorem dX4_pairsOtherwiseWithout_45 : decode cX4_pairsOtherwiseWithout 45 = .ok (.iload_n 3, 1) := by decide +kernel
theorem dX4_pairsOtherwiseWithout_46 : decode cX4_pairsOtherwiseWithout 46 = .ok (.invokevirtual 164, 3) := by decide +kernel
theorem dX4_pairsOtherwiseWithout_49 : decode cX4_pairsOtherwiseWithout 49 = .ok (.if_icmp .eq 6, 3) := by decide +kernel
theorem dX4_pairsOtherwiseWithout_52 : decode cX4_pairsOtherwiseWithout 52 = .ok (.iinc 2 1, 3) := by decide +kernel
theorem dX4_pairsOtherwiseWithout_55 : decode cX4_pairsOtherwiseWithout 55 = .ok (.iinc 3 1, 3) := by decide +kernel
theorem dX4_pairsOtherwiseWithout_58 : decode cX4_pairsOtherwiseWithout 58 = .ok (.goto (-42), 3) := by decide +kernel
theorem dX4_pairsOtherwiseWithout_61 : decode cX4_pairsOtherwiseWithout 61 = .ok (.iload_n 2, 1) := by decide +kernel
theorem dX4_pairsOtherwiseWithout_62 : decode cX4_pairsOtherwiseWithout 62 = .ok (.ireturn, 1) := by decide +kernel
theorem dX4_findPairsOtherwise_0 : decode cX4_findPairsOtherwise 0 = .ok (.iconst 0, 1) := by decide +kernel
theorem dX4_findPairsOtherwise_1 : decode cX4_findPairsOtherwise 1 = .ok (.istore_n 1, 1) := by decide +kernel
theorem dX4_findPairsOtherwise_2 : decode cX4_findPairsOtherwise 2 = .ok (.iload_n 1, 1) := by decide +kernel
theorem dX4_findPairsOtherwise_3 : decode cX4_findPairsOtherwise 3 = .ok (.aload_n 0, 1) := by decide +kernel
theorem dX4_findPairsOtherwise_4 : decode cX4_findPairsOtherwise 4 = .ok (.getfield 10, 3) := by decide +kernel
theorem dX4_findPairsOtherwise_7 : decode cX4_findPairsOtherwise 7 = .ok (.getfield 102, 3) := by decide +kernel
theorem dX4_findPairsOtherwise_10 : decode cX4_findPairsOtherwise 10 = .ok (.if_icmp .ge 20, 3) := by decide +kernel
theorem dX4_findPairsOtherwise_13 : decode cX4_findPairsOtherwise 13 = .ok (.aload_n 0, 1) := by decide +kernel
theorem dX4_findPairsOtherwise_14 : decode cX4_findPairsOtherwise 14 = .ok (.getfield 45, 3) := by decide +kernel
theorem dX4_findPairsOtherwise_17 : decode cX4_findPairsOtherwise 17 = .ok (.iload_n 1, 1) := by decide +kernel
theorem dX4_findPairsOtherwise_18 : decode cX4_findPairsOtherwise 18 = .ok (.aload_n 0, 1) := by decide +kernel
theorem dX4_findPairsOtherwise_19 : decode cX4_findPairsOtherwise 19 = .ok (.iload_n 1, 1) := by decide +kernel
theorem dX4_findPairsOtherwise_20 : decode cX4_findPairsOtherwise 20 = .ok (.invokevirtual 105, 3) := by decide +kernel
theorem dX4_findPairsOtherwise_23 : decode cX4_findPairsOtherwise 23 = .ok (.iastore, 1) := by decide +kernel
theorem dX4_findPairsOtherwise_24 : decode cX4_findPairsOtherwise 24 = .ok (.iinc 1 1, 3) := by decide +kernel
theorem dX4_findPairsOtherwise_27 : decode cX4_findPairsOtherwise 27 = .ok (.goto (-25), 3) := by decide +kernel
theorem dX4_findPairsOtherwise_30 : decode cX4_findPairsOtherwise 30 = .ok (.return_, 1) := by decide +kernel
theorem dX4_lessonWithMostOtherwise_0 : decode cX4_lessonWithMostOtherwise 0 = .ok (.iconst (-1), 1) := by decide +kernel
theorem dX4_lessonWithMostOtherwise_1 : decode cX4_lessonWithMostOtherwise 1 = .ok (.istore_n 1, 1) := by decide +kernel
theorem dX4_lessonWithMostOtherwise_2 : decode cX4_lessonWithMostOtherwise 2 = .ok (.iconst (-1), 1) := by decide +kernel
theorem dX4_lessonWithMostOtherwise_3 : decode cX4_lessonWithMostOtherwise 3 = .ok (.istore_n 2, 1) := by decide +kernel
theorem dX4_lessonWithMostOtherwise_4 : decode cX4_lessonWithMostOtherwise 4 = .ok (.iconst 0, 1) := by decide +kernel
theorem dX4_lessonWithMostOtherwise_5 : decode cX4_lessonWithMostOtherwise 5 = .ok (.istore_n 3, 1) := by decide +kernel
theorem dX4_lessonWithMostOtherwise_6 : decode cX4_lessonWithMostOtherwise 6 = .ok (.iload_n 3, 1) := by decide +kernel
theorem dX4_lessonWithMostOtherwise_7 : decode cX4_lessonWithMostOtherwise 7 = .ok (.aload_n 0, 1) := by decide +kernel
theorem dX4_lessonWithMostOtherwise_8 : decode cX4_lessonWithMostOtherwise 8 = .ok (.getfield 10, 3) := by decide +kernel
theorem dX4_lessonWithMostOtherwise_11 : decode cX4_lessonWithMostOtherwise 11 = .ok (.getfield 102, 3) := by decide +kernel
theorem dX4_lessonWithMostOtherwise_14 : decode cX4_lessonWithMostOtherwise 14 = .ok (.if_icmp .ge 28, 3) := by decide +kernel
theorem dX4_lessonWithMostOtherwise_17 : decode cX4_lessonWithMostOtherwise 17 = .ok (.aload_n 0, 1) := by decide +kernel
theorem dX4_lessonWithMostOtherwise_18 : decode cX4_lessonWithMostOtherwise 18 = .ok (.getfield 45, 3) := by decide +kernel
theorem dX4_lessonWithMostOtherwise_21 : decode cX4_lessonWithMostOtherwise 21 = .ok (.iload_n 3, 1) := by decide +kernel
theorem dX4_lessonWithMostOtherwise_22 : decode cX4_lessonWithMostOtherwise 22 = .ok (.iaload, 1) := by decide +kernel
theorem dX4_lessonWithMostOtherwise_23 : decode cX4_lessonWithMostOtherwise 23 = .ok (.iload_n 2, 1) := by decide +kernel
theorem dX4_lessonWithMostOtherwise_24 : decode cX4_lessonWithMostOtherwise 24 = .ok (.if_icmp .le 12, 3) := by decide +kernel
theorem dX4_lessonWithMostOtherwise_27 : decode cX4_lessonWithMostOtherwise 27 = .ok (.aload_n 0, 1) := by decide +kernel
theorem dX4_lessonWithMostOtherwise_28 : decode cX4_lessonWithMostOtherwise 28 = .ok (.getfield 45, 3) := by decide +kernel
theorem dX4_lessonWithMostOtherwise_31 : decode cX4_lessonWithMostOtherwise 31 = .ok (.iload_n 3, 1) := by decide +kernel
theorem dX4_lessonWithMostOtherwise_32 : decode cX4_lessonWithMostOtherwise 32 = .ok (.iaload, 1) := by decide +kernel
theorem dX4_lessonWithMostOtherwise_33 : decode cX4_lessonWithMostOtherwise 33 = .ok (.istore_n 2, 1) := by decide +kernel
theorem dX4_lessonWithMostOtherwise_34 : decode cX4_lessonWithMostOtherwise 34 = .ok (.iload_n 3, 1) := by decide +kernel
theorem dX4_lessonWithMostOtherwise_35 : decode cX4_lessonWithMostOtherwise 35 = .ok (.istore_n 1, 1) := by decide +kernel
theorem dX4_lessonWithMostOtherwise_36 : decode cX4_lessonWithMostOtherwise 36 = .ok (.iinc 3 1, 3) := by decide +kernel
theorem dX4_lessonWithMostOtherwise_39 : decode cX4_lessonWithMostOtherwise 39 = .ok (.goto (-33), 3) := by decide +kernel
theorem dX4_lessonWithMostOtherwise_42 : decode cX4_lessonWithMostOtherwise 42 = .ok (.iload_n 1, 1) := by decide +kernel
theorem dX4_lessonWithMostOtherwise_43 : decode cX4_lessonWithMostOtherwise 43 = .ok (.ireturn, 1) := by decide +kernel
theorem dX4_hashWith_0 : decode cX4_hashWith 0 = .ok (.ldc2_w 298, 3) := by decide +kernel
theorem dX4_hashWith_3 : decode cX4_hashWith 3 = .ok (.lload_n 0, 1) := by decide +kernel
theorem dX4_hashWith_4 : decode cX4_hashWith 4 = .ok (.lmul, 1) := by decide +kernel
theorem dX4_hashWith_5 : decode cX4_hashWith 5 = .ok (.lload_n 2, 1) := by decide +kernel
theorem dX4_hashWith_6 : decode cX4_hashWith 6 = .ok (.ladd, 1) := by decide +kernel
theorem dX4_hashWith_7 : decode cX4_hashWith 7 = .ok (.lreturn, 1) := by decide +kernel
theorem dX4_hashCountsAndSettings_0 : decode cX4_hashCountsAndSettings 0 = .ok (.lload_n 1, 1) := by decide +kernel
theorem dX4_hashCountsAndSettings_1 : decode cX4_hashCountsAndSettings 1 = .ok (.lstore_n 3, 1) := by decide +kernel
theorem dX4_hashCountsAndSettings_2 : decode cX4_hashCountsAndSettings 2 = .ok (.iconst 0, 1) := by decide +kernel
theorem dX4_hashCountsAndSettings_3 : decode cX4_hashCountsAndSettings 3 = .ok (.istore 5, 2) := by decide +kernel
theorem dX4_hashCountsAndSettings_5 : decode cX4_hashCountsAndSettings 5 = .ok (.iload 5, 2) := by decide +kernel
theorem dX4_hashCountsAndSettings_7 : decode cX4_hashCountsAndSettings 7 = .ok (.bipush 8, 2) := by decide +kernel
theorem dX4_hashCountsAndSettings_9 : decode cX4_hashCountsAndSettings 9 = .ok (.if_icmp .ge 21, 3) := by decide +kernel
theorem dX4_hashCountsAndSettings_12 : decode cX4_hashCountsAndSettings 12 = .ok (.lload_n 3, 1) := by decide +kernel
theorem dX4_hashCountsAndSettings_13 : decode cX4_hashCountsAndSettings 13 = .ok (.aload_n 0, 1) := by decide +kernel
theorem dX4_hashCountsAndSettings_14 : decode cX4_hashCountsAndSettings 14 = .ok (.iload 5, 2) := by decide +kernel
theorem dX4_hashCountsAndSettings_16 : decode cX4_hashCountsAndSettings 16 = .ok (.invokevirtual 300, 3) := by decide +kernel
theorem dX4_hashCountsAndSettings_19 : decode cX4_hashCountsAndSettings 19 = .ok (.i2l, 1) := by decide +kernel
theorem dX4_hashCountsAndSettings_20 : decode cX4_hashCountsAndSettings 20 = .ok (.invokestatic 274, 3) := by decide +kernel
theorem dX4_hashCountsAndSettings_23 : decode cX4_hashCountsAndSettings 23 = .ok (.lstore_n 3, 1) := by decide +kernel
theorem dX4_hashCountsAndSettings_24 : decode cX4_hashCountsAndSettings 24 = .ok (.iinc 5 1, 3) := by decide +kernel
theorem dX4_hashCountsAndSettings_27 : decode cX4_hashCountsAndSettings 27 = .ok (.goto (-22), 3) := by decide +kernel
theorem dX4_hashCountsAndSettings_30 : decode cX4_hashCountsAndSettings 30 = .ok (.iconst 0, 1) := by decide +kernel
theorem dX4_hashCountsAndSettings_31 : decode cX4_hashCountsAndSettings 31 = .ok (.istore 5, 2) := by decide +kernel
theorem dX4_hashCountsAndSettings_33 : decode cX4_hashCountsAndSettings 33 = .ok (.iload 5, 2) := by decide +kernel
theorem dX4_hashCountsAndSettings_35 : decode cX4_hashCountsAndSettings 35 = .ok (.iconst 4, 1) := by decide +kernel
theorem dX4_hashCountsAndSettings_36 : decode cX4_hashCountsAndSettings 36 = .ok (.if_icmp .ge 25, 3) := by decide +kernel
theorem dX4_hashCountsAndSettings_39 : decode cX4_hashCountsAndSettings 39 = .ok (.lload_n 3, 1) := by decide +kernel
theorem dX4_hashCountsAndSettings_40 : decode cX4_hashCountsAndSettings 40 = .ok (.aload_n 0, 1) := by decide +kernel
theorem dX4_hashCountsAndSettings_41 : decode cX4_hashCountsAndSettings 41 = .ok (.getfield 10, 3) := by decide +kernel
theorem dX4_hashCountsAndSettings_44 : decode cX4_hashCountsAndSettings 44 = .ok (.getfield 92, 3) := by decide +kernel
theorem dX4_hashCountsAndSettings_47 : decode cX4_hashCountsAndSettings 47 = .ok (.iload 5, 2) := by decide +kernel
theorem dX4_hashCountsAndSettings_49 : decode cX4_hashCountsAndSettings 49 = .ok (.iaload, 1) := by decide +kernel
theorem dX4_hashCountsAndSettings_50 : decode cX4_hashCountsAndSettings 50 = .ok (.i2l, 1) := by decide +kernel
theorem dX4_hashCountsAndSettings_51 : decode cX4_hashCountsAndSettings 51 = .ok (.invokestatic 274, 3) := by decide +kernel
theorem dX4_hashCountsAndSettings_54 : decode cX4_hashCountsAndSettings 54 = .ok (.lstore_n 3, 1) := by decide +kernel
theorem dX4_hashCountsAndSettings_55 : decode cX4_hashCountsAndSettings 55 = .ok (.iinc 5 1, 3) := by decide +kernel
theorem dX4_hashCountsAndSettings_58 : decode cX4_hashCountsAndSettings 58 = .ok (.goto (-25), 3) := by decide +kernel
theorem dX4_hashCountsAndSettings_61 : decode cX4_hashCountsAndSettings 61 = .ok (.lload_n 3, 1) := by decide +kernel
theorem dX4_hashCountsAndSettings_62 : decode cX4_hashCountsAndSettings 62 = .ok (.lreturn, 1) := by decide +kernel
theorem dX4_hashLetters_0 : decode cX4_hashLetters 0 = .ok (.lload_n 1, 1) := by decide +kernel
theorem dX4_hashLetters_1 : decode cX4_hashLetters 1 = .ok (.lstore_n 3, 1) := by decide +kernel
theorem dX4_hashLetters_2 : decode cX4_hashLetters 2 = .ok (.iconst 0, 1) := by decide +kernel
theorem dX4_hashLetters_3 : decode cX4_hashLetters 3 = .ok (.istore 5, 2) := by decide +kernel
theorem dX4_hashLetters_5 : decode cX4_hashLetters 5 = .ok (.iload 5, 2) := by decide +kernel
theorem dX4_hashLetters_7 : decode cX4_hashLetters 7 = .ok (.bipush 10, 2) := by decide +kernel
theorem dX4_hashLetters_9 : decode cX4_hashLetters 9 = .ok (.if_icmp .ge 38, 3) := by decide +kernel
theorem dX4_hashLetters_12 : decode cX4_hashLetters 12 = .ok (.iconst 0, 1) := by decide +kernel
theorem dX4_hashLetters_13 : decode cX4_hashLetters 13 = .ok (.istore 6, 2) := by decide +kernel
theorem dX4_hashLetters_15 : decode cX4_hashLetters 15 = .ok (.iload 6, 2) := by decide +kernel
theorem dX4_hashLetters_17 : decode cX4_hashLetters 17 = .ok (.iconst 4, 1) := by decide +kernel
theorem dX4_hashLetters_18 : decode cX4_hashLetters 18 = .ok (.if_icmp .ge 23, 3) := by decide +kernel
theorem dX4_hashLetters_21 : decode cX4_hashLetters 21 = .ok (.lload_n 3, 1) := by decide +kernel
theorem dX4_hashLetters_22 : decode cX4_hashLetters 22 = .ok (.aload_n 0, 1) := by decide +kernel
theorem dX4_hashLetters_23 : decode cX4_hashLetters 23 = .ok (.iload 5, 2) := by decide +kernel
theorem dX4_hashLetters_25 : decode cX4_hashLetters 25 = .ok (.iload 6, 2) := by decide +kernel
theorem dX4_hashLetters_27 : decode cX4_hashLetters 27 = .ok (.invokevirtual 303, 3) := by decide +kernel
theorem dX4_hashLetters_30 : decode cX4_hashLetters 30 = .ok (.i2l, 1) := by decide +kernel
theorem dX4_hashLetters_31 : decode cX4_hashLetters 31 = .ok (.invokestatic 274, 3) := by decide +kernel
theorem dX4_hashLetters_34 : decode cX4_hashLetters 34 = .ok (.lstore_n 3, 1) := by decide +kernel
theorem dX4_hashLetters_35 : decode cX4_hashLetters 35 = .ok (.iinc 6 1, 3) := by decide +kernel
theorem dX4_hashLetters_38 : decode cX4_hashLetters 38 = .ok (.goto (-23), 3) := by decide +kernel
theorem dX4_hashLetters_41 : decode cX4_hashLetters 41 = .ok (.iinc 5 1, 3) := by decide +kernel
theorem dX4_hashLetters_44 : decode cX4_hashLetters 44 = .ok (.goto (-39), 3) := by decide +kernel
theorem dX4_hashLetters_47 : decode cX4_hashLetters 47 = .ok (.lload_n 3, 1) := by decide +kernel
theorem dX4_hashLetters_48 : decode cX4_hashLetters 48 = .ok (.lreturn, 1) := by decide +kernel
theorem dX4_hashPairs_0 : decode cX4_hashPairs 0 = .ok (.lload_n 1, 1) := by decide +kernel
theorem dX4_hashPairs_1 : decode cX4_hashPairs 1 = .ok (.lstore_n 3, 1) := by decide +kernel
theorem dX4_hashPairs_2 : decode cX4_hashPairs 2 = .ok (.iconst 0, 1) := by decide +kernel
theorem dX4_hashPairs_3 : decode cX4_hashPairs 3 = .ok (.istore 5, 2) := by decide +kernel
theorem dX4_hashPairs_5 : decode cX4_hashPairs 5 = .ok (.iload 5, 2) := by decide +kernel
theorem dX4_hashPairs_7 : decode cX4_hashPairs 7 = .ok (.bipush 10, 2) := by decide +kernel
theorem dX4_hashPairs_9 : decode cX4_hashPairs 9 = .ok (.if_icmp .ge 85, 3) := by decide +kernel
theorem dX4_hashPairs_12 : decode cX4_hashPairs 12 = .ok (.iconst 0, 1) := by decide +kernel
theorem dX4_hashPairs_13 : decode cX4_hashPairs 13 = .ok (.istore 6, 2) := by decide +kernel
theorem dX4_hashPairs_15 : decode cX4_hashPairs 15 = .ok (.iload 6, 2) := by decide +kernel
theorem dX4_hashPairs_17 : decode cX4_hashPairs 17 = .ok (.bipush 10, 2) := by decide +kernel
theorem dX4_hashPairs_19 : decode cX4_hashPairs 19 = .ok (.if_icmp .ge 69, 3) := by decide +kernel
theorem dX4_hashPairs_22 : decode cX4_hashPairs 22 = .ok (.lload_n 3, 1) := by decide +kernel
theorem dX4_hashPairs_23 : decode cX4_hashPairs 23 = .ok (.aload_n 0, 1) := by decide +kernel
theorem dX4_hashPairs_24 : decode cX4_hashPairs 24 = .ok (.iload 5, 2) := by decide +kernel
theorem dX4_hashPairs_26 : decode cX4_hashPairs 26 = .ok (.iload 6, 2) := by decide +kernel
theorem dX4_hashPairs_28 : decode cX4_hashPairs 28 = .ok (.iconst 0, 1) := by decide +kernel
theorem dX4_hashPairs_29 : decode cX4_hashPairs 29 = .ok (.invokevirtual 306, 3) := by decide +kernel
theorem dX4_hashPairs_32 : decode cX4_hashPairs 32 = .ok (.i2l, 1) := by decide +kernel
theorem dX4_hashPairs_33 : decode cX4_hashPairs 33 = .ok (.invokestatic 274, 3) := by decide +kernel
theorem dX4_hashPairs_36 : decode cX4_hashPairs 36 = .ok (.lstore_n 3, 1) := by decide +kernel
theorem dX4_hashPairs_37 : decode cX4_hashPairs 37 = .ok (.lload_n 3, 1) := by decide +kernel
theorem dX4_hashPairs_38 : decode cX4_hashPairs 38 = .ok (.aload_n 0, 1) := by decide +kernel
theorem dX4_hashPairs_39 : decode cX4_hashPairs 39 = .ok (.iload 5, 2) := by decide +kernel
theorem dX4_hashPairs_41 : decode cX4_hashPairs 41 = .ok (.iload 6, 2) := by decide +kernel
theorem dX4_hashPairs_43 : decode cX4_hashPairs 43 = .ok (.iconst 2, 1) := by decide +kernel
theorem dX4_hashPairs_44 : decode cX4_hashPairs 44 = .ok (.invokevirtual 306, 3) := by decide +kernel
theorem dX4_hashPairs_47 : decode cX4_hashPairs 47 = .ok (.i2l, 1) := by decide +kernel
theorem dX4_hashPairs_48 : decode cX4_hashPairs 48 = .ok (.invokestatic 274, 3) := by decide +kernel
theorem dX4_hashPairs_51 : decode cX4_hashPairs 51 = .ok (.lstore_n 3, 1) := by decide +kernel
theorem dX4_hashPairs_52 : decode cX4_hashPairs 52 = .ok (.lload_n 3, 1) := by decide +kernel
theorem dX4_hashPairs_53 : decode cX4_hashPairs 53 = .ok (.aload_n 0, 1) := by decide +kernel
theorem dX4_hashPairs_54 : decode cX4_hashPairs 54 = .ok (.iload 5, 2) := by decide +kernel
theorem dX4_hashPairs_56 : decode cX4_hashPairs 56 = .ok (.iload 6, 2) := by decide +kernel
theorem dX4_hashPairs_58 : decode cX4_hashPairs 58 = .ok (.iconst 3, 1) := by decide +kernel
theorem dX4_hashPairs_59 : decode cX4_hashPairs 59 = .ok (.invokevirtual 306, 3) := by decide +kernel
theorem dX4_hashPairs_62 : decode cX4_hashPairs 62 = .ok (.i2l, 1) := by decide +kernel
theorem dX4_hashPairs_63 : decode cX4_hashPairs 63 = .ok (.invokestatic 274, 3) := by decide +kernel
theorem dX4_hashPairs_66 : decode cX4_hashPairs 66 = .ok (.lstore_n 3, 1) := by decide +kernel
theorem dX4_hashPairs_67 : decode cX4_hashPairs 67 = .ok (.lload_n 3, 1) := by decide +kernel
theorem dX4_hashPairs_68 : decode cX4_hashPairs 68 = .ok (.aload_n 0, 1) := by decide +kernel
theorem dX4_hashPairs_69 : decode cX4_hashPairs 69 = .ok (.iload 5, 2) := by decide +kernel
theorem dX4_hashPairs_71 : decode cX4_hashPairs 71 = .ok (.iload 6, 2) := by decide +kernel
theorem dX4_hashPairs_73 : decode cX4_hashPairs 73 = .ok (.iconst 4, 1) := by decide +kernel
theorem dX4_hashPairs_74 : decode cX4_hashPairs 74 = .ok (.invokevirtual 306, 3) := by decide +kernel
theorem dX4_hashPairs_77 : decode cX4_hashPairs 77 = .ok (.i2l, 1) := by decide +kernel
theorem dX4_hashPairs_78 : decode cX4_hashPairs 78 = .ok (.invokestatic 274, 3) := by decide +kernel
theorem dX4_hashPairs_81 : decode cX4_hashPairs 81 = .ok (.lstore_n 3, 1) := by decide +kernel
theorem dX4_hashPairs_82 : decode cX4_hashPairs 82 = .ok (.iinc 6 1, 3) := by decide +kernel
theorem dX4_hashPairs_85 : decode cX4_hashPairs 85 = .ok (.goto (-70), 3) := by decide +kernel
theorem dX4_hashPairs_88 : decode cX4_hashPairs 88 = .ok (.iinc 5 1, 3) := by decide +kernel
theorem dX4_hashPairs_91 : decode cX4_hashPairs 91 = .ok (.goto (-86), 3) := by decide +kernel
theorem dX4_hashPairs_94 : decode cX4_hashPairs 94 = .ok (.lload_n 3, 1) := by decide +kernel
theorem dX4_hashPairs_95 : decode cX4_hashPairs 95 = .ok (.lreturn, 1) := by decide +kernel
theorem dX4_hashShapes_0 : decode cX4_hashShapes 0 = .ok (.lload_n 1, 1) := by decide +kernel
theorem dX4_hashShapes_1 : decode cX4_hashShapes 1 = .ok (.lstore_n 3, 1) := by decide +kernel
theorem dX4_hashShapes_2 : decode cX4_hashShapes 2 = .ok (.iconst 0, 1) := by decide +kernel
theorem dX4_hashShapes_3 : decode cX4_hashShapes 3 = .ok (.istore 5, 2) := by decide +kernel
theorem dX4_hashShapes_5 : decode cX4_hashShapes 5 = .ok (.iload 5, 2) := by decide +kernel
theorem dX4_hashShapes_7 : decode cX4_hashShapes 7 = .ok (.iconst 4, 1) := by decide +kernel
theorem dX4_hashShapes_8 : decode cX4_hashShapes 8 = .ok (.if_icmp .ge 55, 3) := by decide +kernel
theorem dX4_hashShapes_11 : decode cX4_hashShapes 11 = .ok (.iconst 0, 1) := by decide +kernel
theorem dX4_hashShapes_12 : decode cX4_hashShapes 12 = .ok (.istore 6, 2) := by decide +kernel
theorem dX4_hashShapes_14 : decode cX4_hashShapes 14 = .ok (.iload 6, 2) := by decide +kernel
theorem dX4_hashShapes_16 : decode cX4_hashShapes 16 = .ok (.iconst 4, 1) := by decide +kernel
theorem dX4_hashShapes_17 : decode cX4_hashShapes 17 = .ok (.if_icmp .ge 40, 3) := by decide +kernel
theorem dX4_hashShapes_20 : decode cX4_hashShapes 20 = .ok (.iconst 0, 1) := by decide +kernel
theorem dX4_hashShapes_21 : decode cX4_hashShapes 21 = .ok (.istore 7, 2) := by decide +kernel
theorem dX4_hashShapes_23 : decode cX4_hashShapes 23 = .ok (.iload 7, 2) := by decide +kernel
theorem dX4_hashShapes_25 : decode cX4_hashShapes 25 = .ok (.iconst 4, 1) := by decide +kernel
theorem dX4_hashShapes_26 : decode cX4_hashShapes 26 = .ok (.if_icmp .ge 25, 3) := by decide +kernel
theorem dX4_hashShapes_29 : decode cX4_hashShapes 29 = .ok (.lload_n 3, 1) := by decide +kernel
theorem dX4_hashShapes_30 : decode cX4_hashShapes 30 = .ok (.aload_n 0, 1) := by decide +kernel
theorem dX4_hashShapes_31 : decode cX4_hashShapes 31 = .ok (.iload 5, 2) := by decide +kernel
theorem dX4_hashShapes_33 : decode cX4_hashShapes 33 = .ok (.iload 6, 2) := by decide +kernel
theorem dX4_hashShapes_35 : decode cX4_hashShapes 35 = .ok (.iload 7, 2) := by decide +kernel
theorem dX4_hashShapes_37 : decode cX4_hashShapes 37 = .ok (.invokevirtual 310, 3) := by decide +kernel
theorem dX4_hashShapes_40 : decode cX4_hashShapes 40 = .ok (.i2l, 1) := by decide +kernel
theorem dX4_hashShapes_41 : decode cX4_hashShapes 41 = .ok (.invokestatic 274, 3) := by decide +kernel
theorem dX4_hashShapes_44 : decode cX4_hashShapes 44 = .ok (.lstore_n 3, 1) := by decide +kernel
theorem dX4_hashShapes_45 : decode cX4_hashShapes 45 = .ok (.iinc 7 1, 3) := by decide +kernel
theorem dX4_hashShapes_48 : decode cX4_hashShapes 48 = .ok (.goto (-25), 3) := by decide +kernel
theorem dX4_hashShapes_51 : decode cX4_hashShapes 51 = .ok (.iinc 6 1, 3) := by decide +kernel
theorem dX4_hashShapes_54 : decode cX4_hashShapes 54 = .ok (.goto (-40), 3) := by decide +kernel
theorem dX4_hashShapes_57 : decode cX4_hashShapes 57 = .ok (.iinc 5 1, 3) := by decide +kernel
theorem dX4_hashShapes_60 : decode cX4_hashShapes 60 = .ok (.goto (-55), 3) := by decide +kernel
theorem dX4_hashShapes_63 : decode cX4_hashShapes 63 = .ok (.lload_n 3, 1) := by decide +kernel
theorem dX4_hashShapes_64 : decode cX4_hashShapes 64 = .ok (.lreturn, 1) := by decide +kernel
theorem dX4_hashLessons_0 : decode cX4_hashLessons 0 = .ok (.lload_n 1, 1) := by decide +kernel
theorem dX4_hashLessons_1 : decode cX4_hashLessons 1 = .ok (.lstore_n 3, 1) := by decide +kernel
theorem dX4_hashLessons_2 : decode cX4_hashLessons 2 = .ok (.iconst 0, 1) := by decide +kernel
theorem dX4_hashLessons_3 : decode cX4_hashLessons 3 = .ok (.istore 5, 2) := by decide +kernel
theorem dX4_hashLessons_5 : decode cX4_hashLessons 5 = .ok (.iload 5, 2) := by decide +kernel
theorem dX4_hashLessons_7 : decode cX4_hashLessons 7 = .ok (.aload_n 0, 1) := by decide +kernel
theorem dX4_hashLessons_8 : decode cX4_hashLessons 8 = .ok (.getfield 10, 3) := by decide +kernel
theorem dX4_hashLessons_11 : decode cX4_hashLessons 11 = .ok (.getfield 102, 3) := by decide +kernel
theorem dX4_hashLessons_14 : decode cX4_hashLessons 14 = .ok (.if_icmp .ge 51, 3) := by decide +kernel
theorem dX4_hashLessons_17 : decode cX4_hashLessons 17 = .ok (.iconst 0, 1) := by decide +kernel
theorem dX4_hashLessons_18 : decode cX4_hashLessons 18 = .ok (.istore 6, 2) := by decide +kernel
theorem dX4_hashLessons_20 : decode cX4_hashLessons 20 = .ok (.iload 6, 2) := by decide +kernel
theorem dX4_hashLessons_22 : decode cX4_hashLessons 22 = .ok (.iconst 4, 1) := by decide +kernel
theorem dX4_hashLessons_23 : decode cX4_hashLessons 23 = .ok (.if_icmp .ge 23, 3) := by decide +kernel
theorem dX4_hashLessons_26 : decode cX4_hashLessons 26 = .ok (.lload_n 3, 1) := by decide +kernel
theorem dX4_hashLessons_27 : decode cX4_hashLessons 27 = .ok (.aload_n 0, 1) := by decide +kernel
theorem dX4_hashLessons_28 : decode cX4_hashLessons 28 = .ok (.iload 5, 2) := by decide +kernel
theorem dX4_hashLessons_30 : decode cX4_hashLessons 30 = .ok (.iload 6, 2) := by decide +kernel
theorem dX4_hashLessons_32 : decode cX4_hashLessons 32 = .ok (.invokevirtual 313, 3) := by decide +kernel
theorem dX4_hashLessons_35 : decode cX4_hashLessons 35 = .ok (.i2l, 1) := by decide +kernel
theorem dX4_hashLessons_36 : decode cX4_hashLessons 36 = .ok (.invokestatic 274, 3) := by decide +kernel
theorem dX4_hashLessons_39 : decode cX4_hashLessons 39 = .ok (.lstore_n 3, 1) := by decide +kernel
theorem dX4_hashLessons_40 : decode cX4_hashLessons 40 = .ok (.iinc 6 1, 3) := by decide +kernel
theorem dX4_hashLessons_43 : decode cX4_hashLessons 43 = .ok (.goto (-23), 3) := by decide +kernel
theorem dX4_hashLessons_46 : decode cX4_hashLessons 46 = .ok (.lload_n 3, 1) := by decide +kernel
theorem dX4_hashLessons_47 : decode cX4_hashLessons 47 = .ok (.aload_n 0, 1) := by decide +kernel
theorem dX4_hashLessons_48 : decode cX4_hashLessons 48 = .ok (.getfield 45, 3) := by decide +kernel
theorem dX4_hashLessons_51 : decode cX4_hashLessons 51 = .ok (.iload 5, 2) := by decide +kernel
theorem dX4_hashLessons_53 : decode cX4_hashLessons 53 = .ok (.iaload, 1) := by decide +kernel
theorem dX4_hashLessons_54 : decode cX4_hashLessons 54 = .ok (.i2l, 1) := by decide +kernel
theorem dX4_hashLessons_55 : decode cX4_hashLessons 55 = .ok (.invokestatic 274, 3) := by decide +kernel
theorem dX4_hashLessons_58 : decode cX4_hashLessons 58 = .ok (.lstore_n 3, 1) := by decide +kernel
theorem dX4_hashLessons_59 : decode cX4_hashLessons 59 = .ok (.iinc 5 1, 3) := by decide +kernel
theorem dX4_hashLessons_62 : decode cX4_hashLessons 62 = .ok (.goto (-57), 3) := by decide +kernel
theorem dX4_hashLessons_65 : decode cX4_hashLessons 65 = .ok (.lload_n 3, 1) := by decide +kernel
theorem dX4_hashLessons_66 : decode cX4_hashLessons 66 = .ok (.lreturn, 1) := by decide +kernel
theorem dX4_bitsOfShare_0 : decode cX4_bitsOfShare 0 = .ok (.dload_n 0, 1) := by decide +kernel
theorem dX4_bitsOfShare_1 : decode cX4_bitsOfShare 1 = .ok (.dconst 0, 1) := by decide +kernel
theorem dX4_bitsOfShare_2 : decode cX4_bitsOfShare 2 = .ok (.dcmp .g, 1) := by decide +kernel
theorem dX4_bitsOfShare_3 : decode cX4_bitsOfShare 3 = .ok (.ifCond .gt 5, 3) := by decide +kernel
theorem dX4_bitsOfShare_6 : decode cX4_bitsOfShare 6 = .ok (.lconst 0, 1) := by decide +kernel
theorem dX4_bitsOfShare_7 : decode cX4_bitsOfShare 7 = .ok (.lreturn, 1) := by decide +kernel
theorem dX4_bitsOfShare_8 : decode cX4_bitsOfShare 8 = .ok (.dload_n 0, 1) := by decide +kernel
theorem dX4_bitsOfShare_9 : decode cX4_bitsOfShare 9 = .ok (.dstore_n 2, 1) := by decide +kernel
theorem dX4_bitsOfShare_10 : decode cX4_bitsOfShare 10 = .ok (.ldc2_w 316, 3) := by decide +kernel
theorem dX4_bitsOfShare_13 : decode cX4_bitsOfShare 13 = .ok (.lstore 4, 2) := by decide +kernel
theorem dX4_bitsOfShare_15 : decode cX4_bitsOfShare 15 = .ok (.iconst 1, 1) := by decide +kernel
theorem dX4_bitsOfShare_16 : decode cX4_bitsOfShare 16 = .ok (.istore 6, 2) := by decide +kernel
theorem dX4_bitsOfShare_18 : decode cX4_bitsOfShare 18 = .ok (.iload 6, 2) := by decide +kernel
theorem dX4_bitsOfShare_20 : decode cX4_bitsOfShare 20 = .ok (.sipush 1023, 3) := by decide +kernel
theorem dX4_bitsOfShare_23 : decode cX4_bitsOfShare 23 = .ok (.if_icmp .ge 27, 3) := by decide +kernel
theorem dX4_bitsOfShare_26 : decode cX4_bitsOfShare 26 = .ok (.dload_n 2, 1) := by decide +kernel
theorem dX4_bitsOfShare_27 : decode cX4_bitsOfShare 27 = .ok (.dconst 1, 1) := by decide +kernel
theorem dX4_bitsOfShare_28 : decode cX4_bitsOfShare 28 = .ok (.dcmp .g, 1) := by decide +kernel
theorem dX4_bitsOfShare_29 : decode cX4_bitsOfShare 29 = .ok (.ifCond .ge 21, 3) := by decide +kernel
theorem dX4_bitsOfShare_32 : decode cX4_bitsOfShare 32 = .ok (.dload_n 2, 1) := by decide +kernel
theorem dX4_bitsOfShare_33 : decode cX4_bitsOfShare 33 = .ok (.ldc2_w 318, 3) := by decide +kernel
theorem dX4_bitsOfShare_36 : decode cX4_bitsOfShare 36 = .ok (.dmul, 1) := by decide +kernel
theorem dX4_bitsOfShare_37 : decode cX4_bitsOfShare 37 = .ok (.dstore_n 2, 1) := by decide +kernel
theorem dX4_bitsOfShare_38 : decode cX4_bitsOfShare 38 = .ok (.lload 4, 2) := by decide +kernel
theorem dX4_bitsOfShare_40 : decode cX4_bitsOfShare 40 = .ok (.lconst 1, 1) := by decide +kernel
theorem dX4_bitsOfShare_41 : decode cX4_bitsOfShare 41 = .ok (.lsub, 1) := by decide +kernel
theorem dX4_bitsOfShare_42 : decode cX4_bitsOfShare 42 = .ok (.lstore 4, 2) := by decide +kernel
theorem dX4_bitsOfShare_44 : decode cX4_bitsOfShare 44 = .ok (.iinc 6 1, 3) := by decide +kernel
theorem dX4_bitsOfShare_47 : decode cX4_bitsOfShare 47 = .ok (.goto (-29), 3) := by decide +kernel
theorem dX4_bitsOfShare_50 : decode cX4_bitsOfShare 50 = .ok (.dload_n 2, 1) := by decide +kernel
theorem dX4_bitsOfShare_51 : decode cX4_bitsOfShare 51 = .ok (.dconst 1, 1) := by decide +kernel
theorem dX4_bitsOfShare_52 : decode cX4_bitsOfShare 52 = .ok (.dsub, 1) := by decide +kernel
theorem dX4_bitsOfShare_53 : decode cX4_bitsOfShare 53 = .ok (.ldc2_w 320, 3) := by decide +kernel
theorem dX4_bitsOfShare_56 : decode cX4_bitsOfShare 56 = .ok (.dmul, 1) := by decide +kernel
theorem dX4_bitsOfShare_57 : decode cX4_bitsOfShare 57 = .ok (.d2l, 1) := by decide +kernel
theorem dX4_bitsOfShare_58 : decode cX4_bitsOfShare 58 = .ok (.lstore 6, 2) := by decide +kernel
theorem dX4_bitsOfShare_60 : decode cX4_bitsOfShare 60 = .ok (.lload 4, 2) := by decide +kernel
theorem dX4_bitsOfShare_62 : decode cX4_bitsOfShare 62 = .ok (.bipush 52, 2) := by decide +kernel
theorem dX4_bitsOfShare_64 : decode cX4_bitsOfShare 64 = .ok (.lshl, 1) := by decide +kernel
theorem dX4_bitsOfShare_65 : decode cX4_bitsOfShare 65 = .ok (.lload 6, 2) := by decide +kernel
theorem dX4_bitsOfShare_67 : decode cX4_bitsOfShare 67 = .ok (.ladd, 1) := by decide +kernel
theorem dX4_bitsOfShare_68 : decode cX4_bitsOfShare 68 = .ok (.lreturn, 1) := by decide +kernel
end
section
theorem dX5_init_0 : decode cX5_init 0 = .ok (.aload_n 0, 1) := by decide +kernel
theorem dX5_init_1 : decode cX5_init 1 = .ok (.invokespecial 1, 3) := by decide +kernel
theorem dX5_init_4 : decode cX5_init 4 = .ok (.aload_n 0, 1) := by decide +kernel
theorem dX5_init_5 : decode cX5_init 5 = .ok (.sipush 174, 3) := by decide +kernel
theorem dX5_init_8 : decode cX5_init 8 = .ok (.newarray .int, 2) := by decide +kernel
theorem dX5_init_10 : decode cX5_init 10 = .ok (.putfield 7, 3) := by decide +kernel
theorem dX5_init_13 : decode cX5_init 13 = .ok (.aload_n 0, 1) := by decide +kernel
theorem dX5_init_14 : decode cX5_init 14 = .ok (.sipush 1044, 3) := by decide +kernel
theorem dX5_init_17 : decode cX5_init 17 = .ok (.newarray .int, 2) := by decide +kernel
theorem dX5_init_19 : decode cX5_init 19 = .ok (.putfield 13, 3) := by decide +kernel
theorem dX5_init_22 : decode cX5_init 22 = .ok (.aload_n 0, 1) := by decide +kernel
theorem dX5_init_23 : decode cX5_init 23 = .ok (.sipush 348, 3) := by decide +kernel
theorem dX5_init_26 : decode cX5_init 26 = .ok (.newarray .int, 2) := by decide +kernel
theorem dX5_init_28 : decode cX5_init 28 = .ok (.putfield 16, 3) := by decide +kernel
theorem dX5_init_31 : decode cX5_init 31 = .ok (.aload_n 0, 1) := by decide +kernel
theorem dX5_init_32 : decode cX5_init 32 = .ok (.iconst 2, 1) := by decide +kernel
theorem dX5_init_33 : decode cX5_init 33 = .ok (.newarray .boolean, 2) := by decide +kernel
theorem dX5_init_35 : decode cX5_init 35 = .ok (.putfield 19, 3) := by decide +kernel
theorem dX5_init_38 : decode cX5_init 38 = .ok (.aload_n 0, 1) := by decide +kernel
theorem dX5_init_39 : decode cX5_init 39 = .ok (.sipush 174, 3) := by decide +kernel
theorem dX5_init_42 : decode cX5_init 42 = .ok (.newarray .int, 2) := by decide +kernel
theorem dX5_init_44 : decode cX5_init 44 = .ok (.putfield 23, 3) := by decide +kernel
theorem dX5_init_47 : decode cX5_init 47 = .ok (.aload_n 0, 1) := by decide +kernel
theorem dX5_init_48 : decode cX5_init 48 = .ok (.bipush 60, 2) := by decide +kernel
theorem dX5_init_50 : decode cX5_init 50 = .ok (.newarray .int, 2) := by decide +kernel
theorem dX5_init_52 : decode cX5_init 52 = .ok (.putfield 26, 3) := by decide +kernel
theorem dX5_init_55 : decode cX5_init 55 = .ok (.aload_n 0, 1) := by decide +kernel
theorem dX5_init_56 : decode cX5_init 56 = .ok (.bipush 16, 2) := by decide +kernel
theorem dX5_init_58 : decode cX5_init 58 = .ok (.newarray .int, 2) := by decide +kernel
theorem dX5_init_60 : decode cX5_init 60 = .ok (.putfield 29, 3) := by decide +kernel
theorem dX5_init_63 : decode cX5_init 63 = .ok (.aload_n 0, 1) := by decide +kernel
theorem dX5_init_64 : decode cX5_init 64 = .ok (.bipush 100, 2) := by decide +kernel
theorem dX5_init_66 : decode cX5_init 66 = .ok (.newarray .int, 2) := by decide +kernel
theorem dX5_init_68 : decode cX5_init 68 = .ok (.putfield 32, 3) := by decide +kernel
theorem dX5_init_71 : decode cX5_init 71 = .ok (.aload_n 0, 1) := by decide +kernel
theorem dX5_init_72 : decode cX5_init 72 = .ok (.bipush 100, 2) := by decide +kernel
theorem dX5_init_74 : decode cX5_init 74 = .ok (.newarray .int, 2) := by decide +kernel
theorem dX5_init_76 : decode cX5_init 76 = .ok (.putfield 35, 3) := by decide +kernel
theorem dX5_init_79 : decode cX5_init 79 = .ok (.aload_n 0, 1) := by decide +kernel
theorem dX5_init_80 : decode cX5_init 80 = .ok (.bipush 100, 2) := by decide +kernel
theorem dX5_init_82 : decode cX5_init 82 = .ok (.newarray .int, 2) := by decide +kernel
theorem dX5_init_84 : decode cX5_init 84 = .ok (.putfield 38, 3) := by decide +kernel
theorem dX5_init_87 : decode cX5_init 87 = .ok (.aload_n 0, 1) := by decide +kernel
theorem dX5_init_88 : decode cX5_init 88 = .ok (.bipush 100, 2) := by decide +kernel
theorem dX5_init_90 : decode cX5_init 90 = .ok (.newarray .int, 2) := by decide +kernel
theorem dX5_init_92 : decode cX5_init 92 = .ok (.putfield 41, 3) := by decide +kernel
theorem dX5_init_95 : decode cX5_init 95 = .ok (.aload_n 0, 1) := by decide +kernel
theorem dX5_init_96 : decode cX5_init 96 = .ok (.bipush 40, 2) := by decide +kernel
theorem dX5_init_98 : decode cX5_init 98 = .ok (.newarray .boolean, 2) := by decide +kernel
theorem dX5_init_100 : decode cX5_init 100 = .ok (.putfield 44, 3) := by decide +kernel
theorem dX5_init_103 : decode cX5_init 103 = .ok (.aload_n 0, 1) := by decide +kernel
theorem dX5_init_104 : decode cX5_init 104 = .ok (.bipush 100, 2) := by decide +kernel
theorem dX5_init_106 : decode cX5_init 106 = .ok (.newarray .int, 2) := by decide +kernel
theorem dX5_init_108 : decode cX5_init 108 = .ok (.putfield 47, 3) := by decide +kernel
theorem dX5_init_111 : decode cX5_init 111 = .ok (.aload_n 0, 1) := by decide +kernel
theorem dX5_init_112 : decode cX5_init 112 = .ok (.getfield 7, 3) := by decide +kernel
theorem dX5_init_115 : decode cX5_init 115 = .ok (.iconst 1, 1) := by decide +kernel
theorem dX5_init_116 : decode cX5_init 116 = .ok (.iconst 3, 1) := by decide +kernel
theorem dX5_init_117 : decode cX5_init 117 = .ok (.iastore, 1) := by decide +kernel
theorem dX5_init_118 : decode cX5_init 118 = .ok (.aload_n 0, 1) := by decide +kernel
theorem dX5_init_119 : decode cX5_init 119 = .ok (.getfield 7, 3) := by decide +kernel
theorem dX5_init_122 : decode cX5_init 122 = .ok (.iconst 2, 1) := by decide +kernel
theorem dX5_init_123 : decode cX5_init 123 = .ok (.iconst 2, 1) := by decide +kernel
theorem dX5_init_124 : decode cX5_init 124 = .ok (.iastore, 1) := by decide +kernel
theorem dX5_init_125 : decode cX5_init 125 = .ok (.aload_n 0, 1) := by decide +kernel
theorem dX5_init_126 : decode cX5_init 126 = .ok (.getfield 7, 3) := by decide +kernel
theorem dX5_init_129 : decode cX5_init 129 = .ok (.iconst 3, 1) := by decide +kernel
theorem dX5_init_130 : decode cX5_init 130 = .ok (.bipush 6, 2) := by decide +kernel
theorem dX5_init_132 : decode cX5_init 132 = .ok (.iastore, 1) := by decide +kernel
theorem dX5_init_133 : decode cX5_init 133 = .ok (.aload_n 0, 1) := by decide +kernel
theorem dX5_init_134 : decode cX5_init 134 = .ok (.getfield 7, 3) := by decide +kernel
theorem dX5_init_137 : decode cX5_init 137 = .ok (.iconst 4, 1) := by decide +kernel
theorem dX5_init_138 : decode cX5_init 138 = .ok (.sipush 200, 3) := by decide +kernel
theorem dX5_init_141 : decode cX5_init 141 = .ok (.iastore, 1) := by decide +kernel
theorem dX5_init_142 : decode cX5_init 142 = .ok (.iconst 0, 1) := by decide +kernel
theorem dX5_init_143 : decode cX5_init 143 = .ok (.istore_n 1, 1) := by decide +kernel
theorem dX5_init_144 : decode cX5_init 144 = .ok (.iload_n 1, 1) := by decide +kernel
theorem dX5_init_145 : decode cX5_init 145 = .ok (.bipush 10, 2) := by decide +kernel
theorem dX5_init_147 : decode cX5_init 147 = .ok (.if_icmp .ge 35, 3) := by decide +kernel
theorem dX5_init_150 : decode cX5_init 150 = .ok (.aload_n 0, 1) := by decide +kernel
theorem dX5_init_151 : decode cX5_init 151 = .ok (.iload_n 1, 1) := by decide +kernel
theorem dX5_init_152 : decode cX5_init 152 = .ok (.iconst 0, 1) := by decide +kernel
theorem dX5_init_153 : decode cX5_init 153 = .ok (.bipush 16, 2) := by decide +kernel
theorem dX5_init_155 : decode cX5_init 155 = .ok (.invokevirtual 50, 3) := by decide +kernel
theorem dX5_init_158 : decode cX5_init 158 = .ok (.aload_n 0, 1) := by decide +kernel
theorem dX5_init_159 : decode cX5_init 159 = .ok (.iload_n 1, 1) := by decide +kernel
theorem dX5_init_160 : decode cX5_init 160 = .ok (.iconst 1, 1) := by decide +kernel
theorem dX5_init_161 : decode cX5_init 161 = .ok (.iload_n 1, 1) := by decide +kernel
theorem dX5_init_162 : decode cX5_init 162 = .ok (.iconst 4, 1) := by decide +kernel
theorem dX5_init_163 : decode cX5_init 163 = .ok (.irem, 1) := by decide +kernel
theorem dX5_init_164 : decode cX5_init 164 = .ok (.invokevirtual 50, 3) := by decide +kernel
theorem dX5_init_167 : decode cX5_init 167 = .ok (.aload_n 0, 1) := by decide +kernel
theorem dX5_init_168 : decode cX5_init 168 = .ok (.iload_n 1, 1) := by decide +kernel
theorem dX5_init_169 : decode cX5_init 169 = .ok (.iconst 2, 1) := by decide +kernel
theorem dX5_init_170 : decode cX5_init 170 = .ok (.iload_n 1, 1) := by decide +kernel
theorem dX5_init_171 : decode cX5_init 171 = .ok (.iconst 4, 1) := by decide +kernel
theorem dX5_init_172 : decode cX5_init 172 = .ok (.irem, 1) := by decide +kernel
theorem dX5_init_173 : decode cX5_init 173 = .ok (.invokevirtual 50, 3) := by decide +kernel
theorem dX5_init_176 : decode cX5_init 176 = .ok (.iinc 1 1, 3) := by decide +kernel
theorem dX5_init_179 : decode cX5_init 179 = .ok (.goto (-35), 3) := by decide +kernel
theorem dX5_init_182 : decode cX5_init 182 = .ok (.return_, 1) := by decide +kernel
theorem dX5_thrown_0 : decode cX5_thrown 0 = .ok (.aload_n 0, 1) := by decide +kernel
theorem dX5_thrown_1 : decode cX5_thrown 1 = .ok (.getfield 54, 3) := by decide +kernel
theorem dX5_thrown_4 : decode cX5_thrown 4 = .ok (.ireturn, 1) := by decide +kernel
theorem dX5_holds_0 : decode cX5_holds 0 = .ok (.aload_n 0, 1) := by decide +kernel
theorem dX5_holds_1 : decode cX5_holds 1 = .ok (.iload_n 1, 1) := by decide +kernel
theorem dX5_holds_2 : decode cX5_holds 2 = .ok (.putfield 54, 3) := by decide +kernel
theorem dX5_holds_5 : decode cX5_holds 5 = .ok (.iload_n 1, 1) := by decide +kernel
theorem dX5_holds_6 : decode cX5_holds 6 = .ok (.ifCond .ne 7, 3) := by decide +kernel
theorem dX5_holds_9 : decode cX5_holds 9 = .ok (.iconst 1, 1) := by decide +kernel
theorem dX5_holds_10 : decode cX5_holds 10 = .ok (.goto 4, 3) := by decide +kernel
theorem dX5_holds_13 : decode cX5_holds 13 = .ok (.iconst 0, 1) := by decide +kernel
theorem dX5_holds_14 : decode cX5_holds 14 = .ok (.ireturn, 1) := by decide +kernel
theorem dX5_in_0 : decode cX5_in 0 = .ok (.iload_n 0, 1) := by decide +kernel
theorem dX5_in_1 : decode cX5_in 1 = .ok (.iload_n 1, 1) := by decide +kernel
theorem dX5_in_2 : decode cX5_in 2 = .ok (.if_icmp .lt 12, 3) := by decide +kernel
theorem dX5_in_5 : decode cX5_in 5 = .ok (.iload_n 0, 1) := by decide +kernel
theorem dX5_in_6 : decode cX5_in 6 = .ok (.iload_n 2, 1) := by decide +kernel
theorem dX5_in_7 : decode cX5_in 7 = .ok (.if_icmp .gt 7, 3) := by decide +kernel
theorem dX5_in_10 : decode cX5_in 10 = .ok (.iconst 1, 1) := by decide +kernel
theorem dX5_in_11 : decode cX5_in 11 = .ok (.goto 4, 3) := by decide +kernel
theorem dX5_in_14 : decode cX5_in 14 = .ok (.iconst 0, 1) := by decide +kernel
theorem dX5_in_15 : decode cX5_in 15 = .ok (.ireturn, 1) := by decide +kernel
theorem dX5_isLetter_0 : decode cX5_isLetter 0 = .ok (.iload_n 0, 1) := by decide +kernel
theorem dX5_isLetter_1 : decode cX5_isLetter 1 = .ok (.iconst 0, 1) := by decide +kernel
theorem dX5_isLetter_2 : decode cX5_isLetter 2 = .ok (.bipush 9, 2) := by decide +kernel
theorem dX5_isLetter_4 : decode cX5_isLetter 4 = .ok (.invokestatic 58, 3) := by decide +kernel
theorem dX5_isLetter_7 : decode cX5_isLetter 7 = .ok (.ireturn, 1) := by decide +kernel
theorem dX5_isShape_0 : decode cX5_isShape 0 = .ok (.iload_n 0, 1) := by decide +kernel
theorem dX5_isShape_1 : decode cX5_isShape 1 = .ok (.iconst 0, 1) := by decide +kernel
theorem dX5_isShape_2 : decode cX5_isShape 2 = .ok (.iconst 3, 1) := by decide +kernel
theorem dX5_isShape_3 : decode cX5_isShape 3 = .ok (.invokestatic 58, 3) := by decide +kernel
theorem dX5_isShape_6 : decode cX5_isShape 6 = .ok (.ireturn, 1) := by decide +kernel
theorem dX5_isTold_0 : decode cX5_isTold 0 = .ok (.iload_n 0, 1) := by decide +kernel
theorem dX5_isTold_1 : decode cX5_isTold 1 = .ok (.iconst 1, 1) := by decide +kernel
theorem dX5_isTold_2 : decode cX5_isTold 2 = .ok (.if_icmp .eq 8, 3) := by decide +kernel
theorem dX5_isTold_5 : decode cX5_isTold 5 = .ok (.iload_n 0, 1) := by decide +kernel
theorem dX5_isTold_6 : decode cX5_isTold 6 = .ok (.iconst (-1), 1) := by decide +kernel
theorem dX5_isTold_7 : decode cX5_isTold 7 = .ok (.if_icmp .ne 7, 3) := by decide +kernel
theorem dX5_isTold_10 : decode cX5_isTold 10 = .ok (.iconst 1, 1) := by decide +kernel
theorem dX5_isTold_11 : decode cX5_isTold 11 = .ok (.goto 4, 3) := by decide +kernel
theorem dX5_isTold_14 : decode cX5_isTold 14 = .ok (.iconst 0, 1) := by decide +kernel
theorem dX5_isTold_15 : decode cX5_isTold 15 = .ok (.ireturn, 1) := by decide +kernel
theorem dX5_isSlot_0 : decode cX5_isSlot 0 = .ok (.iload_n 0, 1) := by decide +kernel
theorem dX5_isSlot_1 : decode cX5_isSlot 1 = .ok (.iconst 0, 1) := by decide +kernel
theorem dX5_isSlot_2 : decode cX5_isSlot 2 = .ok (.iconst 1, 1) := by decide +kernel
theorem dX5_isSlot_3 : decode cX5_isSlot 3 = .ok (.invokestatic 58, 3) := by decide +kernel
theorem dX5_isSlot_6 : decode cX5_isSlot 6 = .ok (.ireturn, 1) := by decide +kernel
theorem dX5_isLesson_0 : decode cX5_isLesson 0 = .ok (.iload_n 1, 1) := by decide +kernel
theorem dX5_isLesson_1 : decode cX5_isLesson 1 = .ok (.iconst 0, 1) := by decide +kernel
theorem dX5_isLesson_2 : decode cX5_isLesson 2 = .ok (.aload_n 0, 1) := by decide +kernel
theorem dX5_isLesson_3 : decode cX5_isLesson 3 = .ok (.getfield 7, 3) := by decide +kernel
theorem dX5_isLesson_6 : decode cX5_isLesson 6 = .ok (.iconst 0, 1) := by decide +kernel
theorem dX5_isLesson_7 : decode cX5_isLesson 7 = .ok (.iaload, 1) := by decide +kernel
theorem dX5_isLesson_8 : decode cX5_isLesson 8 = .ok (.iconst 1, 1) := by decide +kernel
theorem dX5_isLesson_9 : decode cX5_isLesson 9 = .ok (.isub, 1) := by decide +kernel
theorem dX5_isLesson_10 : decode cX5_isLesson 10 = .ok (.invokestatic 58, 3) := by decide +kernel
theorem dX5_isLesson_13 : decode cX5_isLesson 13 = .ok (.ireturn, 1) := by decide +kernel
theorem dX5_of_0 : decode cX5_of 0 = .ok (.aload_n 0, 1) := by decide +kernel
theorem dX5_of_1 : decode cX5_of 1 = .ok (.getfield 7, 3) := by decide +kernel
theorem dX5_of_4 : decode cX5_of 4 = .ok (.bipush 8, 2) := by decide +kernel
theorem dX5_of_6 : decode cX5_of 6 = .ok (.iconst 3, 1) := by decide +kernel
theorem dX5_of_7 : decode cX5_of 7 = .ok (.iload_n 1, 1) := by decide +kernel
theorem dX5_of_8 : decode cX5_of 8 = .ok (.imul, 1) := by decide +kernel
theorem dX5_of_9 : decode cX5_of 9 = .ok (.iadd, 1) := by decide +kernel
theorem dX5_of_10 : decode cX5_of 10 = .ok (.iload_n 2, 1) := by decide +kernel
theorem dX5_of_11 : decode cX5_of 11 = .ok (.iadd, 1) := by decide +kernel
theorem dX5_of_12 : decode cX5_of 12 = .ok (.iaload, 1) := by decide +kernel
theorem dX5_of_13 : decode cX5_of 13 = .ok (.ireturn, 1) := by decide +kernel
theorem dX5_put_0 : decode cX5_put 0 = .ok (.aload_n 0, 1) := by decide +kernel
theorem dX5_put_1 : decode cX5_put 1 = .ok (.getfield 7, 3) := by decide +kernel
theorem dX5_put_4 : decode cX5_put 4 = .ok (.bipush 8, 2) := by decide +kernel
theorem dX5_put_6 : decode cX5_put 6 = .ok (.iconst 3, 1) := by decide +kernel
theorem dX5_put_7 : decode cX5_put 7 = .ok (.iload_n 1, 1) := by decide +kernel
theorem dX5_put_8 : decode cX5_put 8 = .ok (.imul, 1) := by decide +kernel
theorem dX5_put_9 : decode cX5_put 9 = .ok (.iadd, 1) := by decide +kernel
theorem dX5_put_10 : decode cX5_put 10 = .ok (.iload_n 2, 1) := by decide +kernel
theorem dX5_put_11 : decode cX5_put 11 = .ok (.iadd, 1) := by decide +kernel
theorem dX5_put_12 : decode cX5_put 12 = .ok (.iload_n 3, 1) := by decide +kernel
theorem dX5_put_13 : decode cX5_put 13 = .ok (.iastore, 1) := by decide +kernel
theorem dX5_put_14 : decode cX5_put 14 = .ok (.return_, 1) := by decide +kernel
theorem dX5_ofLesson_0 : decode cX5_ofLesson 0 = .ok (.aload_n 0, 1) := by decide +kernel
theorem dX5_ofLesson_1 : decode cX5_ofLesson 1 = .ok (.getfield 7, 3) := by decide +kernel
theorem dX5_ofLesson_4 : decode cX5_ofLesson 4 = .ok (.bipush 54, 2) := by decide +kernel
theorem dX5_ofLesson_6 : decode cX5_ofLesson 6 = .ok (.iconst 3, 1) := by decide +kernel
theorem dX5_ofLesson_7 : decode cX5_ofLesson 7 = .ok (.iload_n 1, 1) := by decide +kernel
theorem dX5_ofLesson_8 : decode cX5_ofLesson 8 = .ok (.imul, 1) := by decide +kernel
theorem dX5_ofLesson_9 : decode cX5_ofLesson 9 = .ok (.iadd, 1) := by decide +kernel
theorem dX5_ofLesson_10 : decode cX5_ofLesson 10 = .ok (.iload_n 2, 1) := by decide +kernel
theorem dX5_ofLesson_11 : decode cX5_ofLesson 11 = .ok (.iadd, 1) := by decide +kernel
theorem dX5_ofLesson_12 : decode cX5_ofLesson 12 = .ok (.iaload, 1) := by decide +kernel
theorem dX5_ofLesson_13 : decode cX5_ofLesson 13 = .ok (.ireturn, 1) := by decide +kernel
theorem dX5_meeting_0 : decode cX5_meeting 0 = .ok (.iconst 4, 1) := by decide +kernel
theorem dX5_meeting_1 : decode cX5_meeting 1 = .ok (.aload_n 0, 1) := by decide +kernel
theorem dX5_meeting_2 : decode cX5_meeting 2 = .ok (.iload_n 1, 1) := by decide +kernel
theorem dX5_meeting_3 : decode cX5_meeting 3 = .ok (.bipush 10, 2) := by decide +kernel
theorem dX5_meeting_5 : decode cX5_meeting 5 = .ok (.idiv, 1) := by decide +kernel
theorem dX5_meeting_6 : decode cX5_meeting 6 = .ok (.iconst 2, 1) := by decide +kernel
theorem dX5_meeting_7 : decode cX5_meeting 7 = .ok (.invokevirtual 62, 3) := by decide +kernel
theorem dX5_meeting_10 : decode cX5_meeting 10 = .ok (.imul, 1) := by decide +kernel
theorem dX5_meeting_11 : decode cX5_meeting 11 = .ok (.aload_n 0, 1) := by decide +kernel
theorem dX5_meeting_12 : decode cX5_meeting 12 = .ok (.iload_n 1, 1) := by decide +kernel
theorem dX5_meeting_13 : decode cX5_meeting 13 = .ok (.bipush 10, 2) := by decide +kernel
theorem dX5_meeting_15 : decode cX5_meeting 15 = .ok (.irem, 1) := by decide +kernel
theorem dX5_meeting_16 : decode cX5_meeting 16 = .ok (.iconst 1, 1) := by decide +kernel
theorem dX5_meeting_17 : decode cX5_meeting 17 = .ok (.invokevirtual 62, 3) := by decide +kernel
theorem dX5_meeting_20 : decode cX5_meeting 20 = .ok (.iadd, 1) := by decide +kernel
theorem dX5_meeting_21 : decode cX5_meeting 21 = .ok (.ireturn, 1) := by decide +kernel
theorem dX5_copy_0 : decode cX5_copy 0 = .ok (.iconst 0, 1) := by decide +kernel
theorem dX5_copy_1 : decode cX5_copy 1 = .ok (.istore 4, 2) := by decide +kernel
theorem dX5_copy_3 : decode cX5_copy 3 = .ok (.iload 4, 2) := by decide +kernel
theorem dX5_copy_5 : decode cX5_copy 5 = .ok (.sipush 174, 3) := by decide +kernel
theorem dX5_copy_8 : decode cX5_copy 8 = .ok (.if_icmp .ge 21, 3) := by decide +kernel
theorem dX5_copy_11 : decode cX5_copy 11 = .ok (.aload_n 2, 1) := by decide +kernel
theorem dX5_copy_12 : decode cX5_copy 12 = .ok (.iload_n 3, 1) := by decide +kernel
theorem dX5_copy_13 : decode cX5_copy 13 = .ok (.iload 4, 2) := by decide +kernel
theorem dX5_copy_15 : decode cX5_copy 15 = .ok (.iadd, 1) := by decide +kernel
theorem dX5_copy_16 : decode cX5_copy 16 = .ok (.aload_n 0, 1) := by decide +kernel
theorem dX5_copy_17 : decode cX5_copy 17 = .ok (.iload_n 1, 1) := by decide +kernel
theorem dX5_copy_18 : decode cX5_copy 18 = .ok (.iload 4, 2) := by decide +kernel
theorem dX5_copy_20 : decode cX5_copy 20 = .ok (.iadd, 1) := by decide +kernel
theorem dX5_copy_21 : decode cX5_copy 21 = .ok (.iaload, 1) := by decide +kernel
theorem dX5_copy_22 : decode cX5_copy 22 = .ok (.iastore, 1) := by decide +kernel
theorem dX5_copy_23 : decode cX5_copy 23 = .ok (.iinc 4 1, 3) := by decide +kernel
theorem dX5_copy_26 : decode cX5_copy 26 = .ok (.goto (-23), 3) := by decide +kernel
theorem dX5_copy_29 : decode cX5_copy 29 = .ok (.return_, 1) := by decide +kernel
theorem dX5_save_0 : decode cX5_save 0 = .ok (.aload_n 0, 1) := by decide +kernel
theorem dX5_save_1 : decode cX5_save 1 = .ok (.getfield 66, 3) := by decide +kernel
theorem dX5_save_4 : decode cX5_save 4 = .ok (.bipush 6, 2) := by decide +kernel
theorem dX5_save_6 : decode cX5_save 6 = .ok (.if_icmp .ne 44, 3) := by decide +kernel
theorem dX5_save_9 : decode cX5_save 9 = .ok (.iconst 0, 1) := by decide +kernel
theorem dX5_save_10 : decode cX5_save 10 = .ok (.istore_n 1, 1) := by decide +kernel
theorem dX5_save_11 : decode cX5_save 11 = .ok (.iload_n 1, 1) := by decide +kernel
theorem dX5_save_12 : decode cX5_save 12 = .ok (.sipush 870, 3) := by decide +kernel
theorem dX5_save_15 : decode cX5_save 15 = .ok (.if_icmp .ge 25, 3) := by decide +kernel
theorem dX5_save_18 : decode cX5_save 18 = .ok (.aload_n 0, 1) := by decide +kernel
theorem dX5_save_19 : decode cX5_save 19 = .ok (.getfield 13, 3) := by decide +kernel
theorem dX5_save_22 : decode cX5_save 22 = .ok (.iload_n 1, 1) := by decide +kernel
theorem dX5_save_23 : decode cX5_save 23 = .ok (.aload_n 0, 1) := by decide +kernel
theorem dX5_save_24 : decode cX5_save 24 = .ok (.getfield 13, 3) := by decide +kernel
theorem dX5_save_27 : decode cX5_save 27 = .ok (.sipush 174, 3) := by decide +kernel
theorem dX5_save_30 : decode cX5_save 30 = .ok (.iload_n 1, 1) := by decide +kernel
theorem dX5_save_31 : decode cX5_save 31 = .ok (.iadd, 1) := by decide +kernel
theorem dX5_save_32 : decode cX5_save 32 = .ok (.iaload, 1) := by decide +kernel
theorem dX5_save_33 : decode cX5_save 33 = .ok (.iastore, 1) := by decide +kernel
theorem dX5_save_34 : decode cX5_save 34 = .ok (.iinc 1 1, 3) := by decide +kernel
theorem dX5_save_37 : decode cX5_save 37 = .ok (.goto (-26), 3) := by decide +kernel
theorem dX5_save_40 : decode cX5_save 40 = .ok (.aload_n 0, 1) := by decide +kernel
theorem dX5_save_41 : decode cX5_save 41 = .ok (.dup, 1) := by decide +kernel
theorem dX5_save_42 : decode cX5_save 42 = .ok (.getfield 66, 3) := by decide +kernel
theorem dX5_save_45 : decode cX5_save 45 = .ok (.iconst 1, 1) := by decide +kernel
theorem dX5_save_46 : decode cX5_save 46 = .ok (.isub, 1) := by decide +kernel
theorem dX5_save_47 : decode cX5_save 47 = .ok (.putfield 66, 3) := by decide +kernel
theorem dX5_save_50 : decode cX5_save 50 = .ok (.aload_n 0, 1) := by decide +kernel
theorem dX5_save_51 : decode cX5_save 51 = .ok (.getfield 7, 3) := by decide +kernel
theorem dX5_save_54 : decode cX5_save 54 = .ok (.iconst 0, 1) := by decide +kernel
theorem dX5_save_55 : decode cX5_save 55 = .ok (.aload_n 0, 1) := by decide +kernel
theorem dX5_save_56 : decode cX5_save 56 = .ok (.getfield 13, 3) := by decide +kernel
theorem dX5_save_59 : decode cX5_save 59 = .ok (.sipush 174, 3) := by decide +kernel
theorem dX5_save_62 : decode cX5_save 62 = .ok (.aload_n 0, 1) := by decide +kernel
theorem dX5_save_63 : decode cX5_save 63 = .ok (.getfield 66, 3) := by decide +kernel
theorem dX5_save_66 : decode cX5_save 66 = .ok (.imul, 1) := by decide +kernel
theorem dX5_save_67 : decode cX5_save 67 = .ok (.invokestatic 69, 3) := by decide +kernel
theorem dX5_save_70 : decode cX5_save 70 = .ok (.aload_n 0, 1) := by decide +kernel
theorem dX5_save_71 : decode cX5_save 71 = .ok (.dup, 1) := by decide +kernel
theorem dX5_save_72 : decode cX5_save 72 = .ok (.getfield 66, 3) := by decide +kernel
theorem dX5_save_75 : decode cX5_save 75 = .ok (.iconst 1, 1) := by decide +kernel
theorem dX5_save_76 : decode cX5_save 76 = .ok (.iadd, 1) := by decide +kernel
theorem dX5_save_77 : decode cX5_save 77 = .ok (.putfield 66, 3) := by decide +kernel
theorem dX5_save_80 : decode cX5_save 80 = .ok (.return_, 1) := by decide +kernel
theorem dX5_kerningOf_0 : decode cX5_kerningOf 0 = .ok (.aload_n 0, 1) := by decide +kernel
theorem dX5_kerningOf_1 : decode cX5_kerningOf 1 = .ok (.getfield 29, 3) := by decide +kernel
theorem dX5_kerningOf_4 : decode cX5_kerningOf 4 = .ok (.aload_n 0, 1) := by decide +kernel
theorem dX5_kerningOf_5 : decode cX5_kerningOf 5 = .ok (.iload_n 1, 1) := by decide +kernel
theorem dX5_kerningOf_6 : decode cX5_kerningOf 6 = .ok (.invokevirtual 73, 3) := by decide +kernel
theorem dX5_kerningOf_9 : decode cX5_kerningOf 9 = .ok (.iaload, 1) := by decide +kernel
theorem dX5_kerningOf_10 : decode cX5_kerningOf 10 = .ok (.aload_n 0, 1) := by decide +kernel
theorem dX5_kerningOf_11 : decode cX5_kerningOf 11 = .ok (.getfield 32, 3) := by decide +kernel
theorem dX5_kerningOf_14 : decode cX5_kerningOf 14 = .ok (.iload_n 1, 1) := by decide +kernel
theorem dX5_kerningOf_15 : decode cX5_kerningOf 15 = .ok (.iaload, 1) := by decide +kernel
theorem dX5_kerningOf_16 : decode cX5_kerningOf 16 = .ok (.iadd, 1) := by decide +kernel
theorem dX5_kerningOf_17 : decode cX5_kerningOf 17 = .ok (.ireturn, 1) := by decide +kernel
theorem dX5_within_0 : decode cX5_within 0 = .ok (.iload_n 0, 1) := by decide +kernel
theorem dX5_within_1 : decode cX5_within 1 = .ok (.bipush (-12), 2) := by decide +kernel
theorem dX5_within_3 : decode cX5_within 3 = .ok (.if_icmp .ge 8, 3) := by decide +kernel
theorem dX5_within_6 : decode cX5_within 6 = .ok (.bipush (-12), 2) := by decide +kernel
theorem dX5_within_8 : decode cX5_within 8 = .ok (.goto 15, 3) := by decide +kernel
theorem dX5_within_11 : decode cX5_within 11 = .ok (.iload_n 0, 1) := by decide +kernel
theorem dX5_within_12 : decode cX5_within 12 = .ok (.bipush 12, 2) := by decide +kernel
theorem dX5_within_14 : decode cX5_within 14 = .ok (.if_icmp .le 8, 3) := by decide +kernel
theorem dX5_within_17 : decode cX5_within 17 = .ok (.bipush 12, 2) := by decide +kernel
theorem dX5_within_19 : decode cX5_within 19 = .ok (.goto 4, 3) := by decide +kernel
theorem dX5_within_22 : decode cX5_within 22 = .ok (.iload_n 0, 1) := by decide +kernel
theorem dX5_within_23 : decode cX5_within 23 = .ok (.ireturn, 1) := by decide +kernel
theorem dX5_isAtEnd_0 : decode cX5_isAtEnd 0 = .ok (.aload_n 0, 1) := by decide +kernel
theorem dX5_isAtEnd_1 : decode cX5_isAtEnd 1 = .ok (.iload_n 1, 1) := by decide +kernel
theorem dX5_isAtEnd_2 : decode cX5_isAtEnd 2 = .ok (.invokevirtual 77, 3) := by decide +kernel
theorem dX5_isAtEnd_5 : decode cX5_isAtEnd 5 = .ok (.iload_n 2, 1) := by decide +kernel
theorem dX5_isAtEnd_6 : decode cX5_isAtEnd 6 = .ok (.bipush 12, 2) := by decide +kernel
theorem dX5_isAtEnd_8 : decode cX5_isAtEnd 8 = .ok (.imul, 1) := by decide +kernel
theorem dX5_isAtEnd_9 : decode cX5_isAtEnd 9 = .ok (.if_icmp .ne 7, 3) := by decide +kernel
theorem dX5_isAtEnd_12 : decode cX5_isAtEnd 12 = .ok (.iconst 1, 1) := by decide +kernel
theorem dX5_isAtEnd_13 : decode cX5_isAtEnd 13 = .ok (.goto 4, 3) := by decide +kernel
theorem dX5_isAtEnd_16 : decode cX5_isAtEnd 16 = .ok (.iconst 0, 1) := by decide +kernel
theorem dX5_isAtEnd_17 : decode cX5_isAtEnd 17 = .ok (.ireturn, 1) := by decide +kernel
theorem dX5_learnShapes_0 : decode cX5_learnShapes 0 = .ok (.iconst 0, 1) := by decide +kernel
theorem dX5_learnShapes_1 : decode cX5_learnShapes 1 = .ok (.istore_n 3, 1) := by decide +kernel
theorem dX5_learnShapes_2 : decode cX5_learnShapes 2 = .ok (.iconst 0, 1) := by decide +kernel
theorem dX5_learnShapes_3 : decode cX5_learnShapes 3 = .ok (.istore 4, 2) := by decide +kernel
theorem dX5_learnShapes_5 : decode cX5_learnShapes 5 = .ok (.iload 4, 2) := by decide +kernel
theorem dX5_learnShapes_7 : decode cX5_learnShapes 7 = .ok (.bipush 100, 2) := by decide +kernel
theorem dX5_learnShapes_9 : decode cX5_learnShapes 9 = .ok (.if_icmp .ge 49, 3) := by decide +kernel
theorem dX5_learnShapes_12 : decode cX5_learnShapes 12 = .ok (.iload_n 3, 1) := by decide +kernel
theorem dX5_learnShapes_13 : decode cX5_learnShapes 13 = .ok (.aload_n 0, 1) := by decide +kernel
theorem dX5_learnShapes_14 : decode cX5_learnShapes 14 = .ok (.iload 4, 2) := by decide +kernel
theorem dX5_learnShapes_16 : decode cX5_learnShapes 16 = .ok (.invokevirtual 73, 3) := by decide +kernel
theorem dX5_learnShapes_19 : decode cX5_learnShapes 19 = .ok (.iload_n 1, 1) := by decide +kernel
theorem dX5_learnShapes_20 : decode cX5_learnShapes 20 = .ok (.if_icmp .ne 29, 3) := by decide +kernel
theorem dX5_learnShapes_23 : decode cX5_learnShapes 23 = .ok (.aload_n 0, 1) := by decide +kernel
theorem dX5_learnShapes_24 : decode cX5_learnShapes 24 = .ok (.getfield 41, 3) := by decide +kernel
theorem dX5_learnShapes_27 : decode cX5_learnShapes 27 = .ok (.iload 4, 2) := by decide +kernel
theorem dX5_learnShapes_29 : decode cX5_learnShapes 29 = .ok (.iaload, 1) := by decide +kernel
theorem dX5_learnShapes_30 : decode cX5_learnShapes 30 = .ok (.ifCond .le 19, 3) := by decide +kernel
theorem dX5_learnShapes_33 : decode cX5_learnShapes 33 = .ok (.iload_n 2, 1) := by decide +kernel
theorem dX5_learnShapes_34 : decode cX5_learnShapes 34 = .ok (.aload_n 0, 1) := by decide +kernel
theorem dX5_learnShapes_35 : decode cX5_learnShapes 35 = .ok (.getfield 32, 3) := by decide +kernel
theorem dX5_learnShapes_38 : decode cX5_learnShapes 38 = .ok (.iload 4, 2) := by decide +kernel
theorem dX5_learnShapes_40 : decode cX5_learnShapes 40 = .ok (.iaload, 1) := by decide +kernel
theorem dX5_learnShapes_41 : decode cX5_learnShapes 41 = .ok (.imul, 1) := by decide +kernel
theorem dX5_learnShapes_42 : decode cX5_learnShapes 42 = .ok (.ifCond .le 7, 3) := by decide +kernel
theorem dX5_learnShapes_45 : decode cX5_learnShapes 45 = .ok (.iconst 1, 1) := by decide +kernel
theorem dX5_learnShapes_46 : decode cX5_learnShapes 46 = .ok (.goto 4, 3) := by decide +kernel
theorem dX5_learnShapes_49 : decode cX5_learnShapes 49 = .ok (.iconst 0, 1) := by decide +kernel
theorem dX5_learnShapes_50 : decode cX5_learnShapes 50 = .ok (.iadd, 1) := by decide +kernel
theorem dX5_learnShapes_51 : decode cX5_learnShapes 51 = .ok (.istore_n 3, 1) := by decide +kernel
theorem dX5_learnShapes_52 : decode cX5_learnShapes 52 = .ok (.iinc 4 1, 3) := by decide +kernel
theorem dX5_learnShapes_55 : decode cX5_learnShapes 55 = .ok (.goto (-50), 3) := by decide +kernel
theorem dX5_learnShapes_58 : decode cX5_learnShapes 58 = .ok (.iload_n 3, 1) := by decide +kernel
theorem dX5_learnShapes_59 : decode cX5_learnShapes 59 = .ok (.aload_n 0, 1) := by decide +kernel
theorem dX5_learnShapes_60 : decode cX5_learnShapes 60 = .ok (.getfield 7, 3) := by decide +kernel
theorem dX5_learnShapes_63 : decode cX5_learnShapes 63 = .ok (.iconst 2, 1) := by decide +kernel
theorem dX5_learnShapes_64 : decode cX5_learnShapes 64 = .ok (.iaload, 1) := by decide +kernel
theorem dX5_learnShapes_65 : decode cX5_learnShapes 65 = .ok (.if_icmp .lt 77, 3) := by decide +kernel
theorem dX5_learnShapes_68 : decode cX5_learnShapes 68 = .ok (.aload_n 0, 1) := by decide +kernel
theorem dX5_learnShapes_69 : decode cX5_learnShapes 69 = .ok (.getfield 29, 3) := by decide +kernel
theorem dX5_learnShapes_72 : decode cX5_learnShapes 72 = .ok (.iload_n 1, 1) := by decide +kernel
theorem dX5_learnShapes_73 : decode cX5_learnShapes 73 = .ok (.iaload, 1) := by decide +kernel
theorem dX5_learnShapes_74 : decode cX5_learnShapes 74 = .ok (.iload_n 2, 1) := by decide +kernel
theorem dX5_learnShapes_75 : decode cX5_learnShapes 75 = .ok (.bipush 12, 2) := by decide +kernel
theorem dX5_learnShapes_77 : decode cX5_learnShapes 77 = .ok (.imul, 1) := by decide +kernel
theorem dX5_learnShapes_78 : decode cX5_learnShapes 78 = .ok (.if_icmp .eq 64, 3) := by decide +kernel
theorem dX5_learnShapes_81 : decode cX5_learnShapes 81 = .ok (.aload_n 0, 1) := by decide +kernel
theorem dX5_learnShapes_82 : decode cX5_learnShapes 82 = .ok (.getfield 29, 3) := by decide +kernel
theorem dX5_learnShapes_85 : decode cX5_learnShapes 85 = .ok (.iload_n 1, 1) := by decide +kernel
theorem dX5_learnShapes_86 : decode cX5_learnShapes 86 = .ok (.dup2, 1) := by decide +kernel
theorem dX5_learnShapes_87 : decode cX5_learnShapes 87 = .ok (.iaload, 1) := by decide +kernel
theorem dX5_learnShapes_88 : decode cX5_learnShapes 88 = .ok (.iload_n 2, 1) := by decide +kernel
theorem dX5_learnShapes_89 : decode cX5_learnShapes 89 = .ok (.iadd, 1) := by decide +kernel
theorem dX5_learnShapes_90 : decode cX5_learnShapes 90 = .ok (.iastore, 1) := by decide +kernel
theorem dX5_learnShapes_91 : decode cX5_learnShapes 91 = .ok (.iconst 0, 1) := by decide +kernel
theorem dX5_learnShapes_92 : decode cX5_learnShapes 92 = .ok (.istore 4, 2) := by decide +kernel
theorem dX5_learnShapes_94 : decode cX5_learnShapes 94 = .ok (.iload 4, 2) := by decide +kernel
theorem dX5_learnShapes_96 : decode cX5_learnShapes 96 = .ok (.bipush 100, 2) := by decide +kernel
theorem dX5_learnShapes_98 : decode cX5_learnShapes 98 = .ok (.if_icmp .ge 44, 3) := by decide +kernel
theorem dX5_learnShapes_101 : decode cX5_learnShapes 101 = .ok (.aload_n 0, 1) := by decide +kernel
theorem dX5_learnShapes_102 : decode cX5_learnShapes 102 = .ok (.getfield 32, 3) := by decide +kernel
theorem dX5_learnShapes_105 : decode cX5_learnShapes 105 = .ok (.iload 4, 2) := by decide +kernel
theorem dX5_learnShapes_107 : decode cX5_learnShapes 107 = .ok (.dup2, 1) := by decide +kernel
theorem dX5_learnShapes_108 : decode cX5_learnShapes 108 = .ok (.iaload, 1) := by decide +kernel
theorem dX5_learnShapes_109 : decode cX5_learnShapes 109 = .ok (.aload_n 0, 1) := by decide +kernel
theorem dX5_learnShapes_110 : decode cX5_learnShapes 110 = .ok (.iload 4, 2) := by decide +kernel
theorem dX5_learnShapes_112 : decode cX5_learnShapes 112 = .ok (.invokevirtual 73, 3) := by decide +kernel
theorem dX5_learnShapes_115 : decode cX5_learnShapes 115 = .ok (.iload_n 1, 1) := by decide +kernel
theorem dX5_learnShapes_116 : decode cX5_learnShapes 116 = .ok (.if_icmp .ne 17, 3) := by decide +kernel
theorem dX5_learnShapes_119 : decode cX5_learnShapes 119 = .ok (.aload_n 0, 1) := by decide +kernel
theorem dX5_learnShapes_120 : decode cX5_learnShapes 120 = .ok (.getfield 41, 3) := by decide +kernel
theorem dX5_learnShapes_123 : decode cX5_learnShapes 123 = .ok (.iload 4, 2) := by decide +kernel
theorem dX5_learnShapes_125 : decode cX5_learnShapes 125 = .ok (.iaload, 1) := by decide +kernel
theorem dX5_learnShapes_126 : decode cX5_learnShapes 126 = .ok (.ifCond .le 7, 3) := by decide +kernel
theorem dX5_learnShapes_129 : decode cX5_learnShapes 129 = .ok (.iload_n 2, 1) := by decide +kernel
theorem dX5_learnShapes_130 : decode cX5_learnShapes 130 = .ok (.goto 4, 3) := by decide +kernel
theorem dX5_learnShapes_133 : decode cX5_learnShapes 133 = .ok (.iconst 0, 1) := by decide +kernel
theorem dX5_learnShapes_134 : decode cX5_learnShapes 134 = .ok (.isub, 1) := by decide +kernel
theorem dX5_learnShapes_135 : decode cX5_learnShapes 135 = .ok (.iastore, 1) := by decide +kernel
theorem dX5_learnShapes_136 : decode cX5_learnShapes 136 = .ok (.iinc 4 1, 3) := by decide +kernel
theorem dX5_learnShapes_139 : decode cX5_learnShapes 139 = .ok (.goto (-45), 3) := by decide +kernel
theorem dX5_learnShapes_142 : decode cX5_learnShapes 142 = .ok (.return_, 1) := by decide +kernel
theorem dX5_learn_0 : decode cX5_learn 0 = .ok (.bipush 10, 2) := by decide +kernel
theorem dX5_learn_2 : decode cX5_learn 2 = .ok (.aload_n 0, 1) := by decide +kernel
theorem dX5_learn_3 : decode cX5_learn 3 = .ok (.iload_n 1, 1) := by decide +kernel
theorem dX5_learn_4 : decode cX5_learn 4 = .ok (.iconst 0, 1) := by decide +kernel
theorem dX5_learn_5 : decode cX5_learn 5 = .ok (.invokevirtual 80, 3) := by decide +kernel
theorem dX5_learn_8 : decode cX5_learn 8 = .ok (.imul, 1) := by decide +kernel
theorem dX5_learn_9 : decode cX5_learn 9 = .ok (.aload_n 0, 1) := by decide +kernel
theorem dX5_learn_10 : decode cX5_learn 10 = .ok (.iload_n 1, 1) := by decide +kernel
theorem dX5_learn_11 : decode cX5_learn 11 = .ok (.iconst 1, 1) := by decide +kernel
theorem dX5_learn_12 : decode cX5_learn 12 = .ok (.invokevirtual 80, 3) := by decide +kernel
theorem dX5_learn_15 : decode cX5_learn 15 = .ok (.iadd, 1) := by decide +kernel
theorem dX5_learn_16 : decode cX5_learn 16 = .ok (.istore_n 2, 1) := by decide +kernel
theorem dX5_learn_17 : decode cX5_learn 17 = .ok (.aload_n 0, 1) := by decide +kernel
theorem dX5_learn_18 : decode cX5_learn 18 = .ok (.iload_n 1, 1) := by decide +kernel
theorem dX5_learn_19 : decode cX5_learn 19 = .ok (.iconst 2, 1) := by decide +kernel
theorem dX5_learn_20 : decode cX5_learn 20 = .ok (.invokevirtual 80, 3) := by decide +kernel
theorem dX5_learn_23 : decode cX5_learn 23 = .ok (.istore_n 3, 1) := by decide +kernel
theorem dX5_learn_24 : decode cX5_learn 24 = .ok (.aload_n 0, 1) := by decide +kernel
theorem dX5_learn_25 : decode cX5_learn 25 = .ok (.getfield 44, 3) := by decide +kernel
theorem dX5_learn_28 : decode cX5_learn 28 = .ok (.iload_n 1, 1) := by decide +kernel
theorem dX5_learn_29 : decode cX5_learn 29 = .ok (.aload_n 0, 1) := by decide +kernel
theorem dX5_learn_30 : decode cX5_learn 30 = .ok (.iload_n 2, 1) := by decide +kernel
theorem dX5_learn_31 : decode cX5_learn 31 = .ok (.iload_n 3, 1) := by decide +kernel
theorem dX5_learn_32 : decode cX5_learn 32 = .ok (.invokevirtual 83, 3) := by decide +kernel
theorem dX5_learn_35 : decode cX5_learn 35 = .ok (.bastore, 1) := by decide +kernel
theorem dX5_learn_36 : decode cX5_learn 36 = .ok (.aload_n 0, 1) := by decide +kernel
theorem dX5_learn_37 : decode cX5_learn 37 = .ok (.getfield 44, 3) := by decide +kernel
theorem dX5_learn_40 : decode cX5_learn 40 = .ok (.iload_n 1, 1) := by decide +kernel
theorem dX5_learn_41 : decode cX5_learn 41 = .ok (.baload, 1) := by decide +kernel
theorem dX5_learn_42 : decode cX5_learn 42 = .ok (.ifCond .eq 4, 3) := by decide +kernel
theorem dX5_learn_45 : decode cX5_learn 45 = .ok (.return_, 1) := by decide +kernel
theorem dX5_learn_46 : decode cX5_learn 46 = .ok (.aload_n 0, 1) := by decide +kernel
theorem dX5_learn_47 : decode cX5_learn 47 = .ok (.getfield 41, 3) := by decide +kernel
theorem dX5_learn_50 : decode cX5_learn 50 = .ok (.iload_n 2, 1) := by decide +kernel
theorem dX5_learn_51 : decode cX5_learn 51 = .ok (.iaload, 1) := by decide +kernel
theorem dX5_learn_52 : decode cX5_learn 52 = .ok (.ifCond .ne 18, 3) := by decide +kernel
theorem dX5_learn_55 : decode cX5_learn 55 = .ok (.aload_n 0, 1) := by decide +kernel
theorem dX5_learn_56 : decode cX5_learn 56 = .ok (.getfield 35, 3) := by decide +kernel
theorem dX5_learn_59 : decode cX5_learn 59 = .ok (.iload_n 2, 1) := by decide +kernel
theorem dX5_learn_60 : decode cX5_learn 60 = .ok (.aload_n 0, 1) := by decide +kernel
theorem dX5_learn_61 : decode cX5_learn 61 = .ok (.getfield 7, 3) := by decide +kernel
theorem dX5_learn_64 : decode cX5_learn 64 = .ok (.iconst 1, 1) := by decide +kernel
theorem dX5_learn_65 : decode cX5_learn 65 = .ok (.iaload, 1) := by decide +kernel
theorem dX5_learn_66 : decode cX5_learn 66 = .ok (.iastore, 1) := by decide +kernel
theorem dX5_learn_67 : decode cX5_learn 67 = .ok (.goto 41, 3) := by decide +kernel
theorem dX5_learn_70 : decode cX5_learn 70 = .ok (.aload_n 0, 1) := by decide +kernel
theorem dX5_learn_71 : decode cX5_learn 71 = .ok (.getfield 38, 3) := by decide +kernel
theorem dX5_learn_74 : decode cX5_learn 74 = .ok (.iload_n 2, 1) := by decide +kernel
theorem dX5_learn_75 : decode cX5_learn 75 = .ok (.iaload, 1) := by decide +kernel
theorem dX5_learn_76 : decode cX5_learn 76 = .ok (.iload_n 3, 1) := by decide +kernel
theorem dX5_learn_77 : decode cX5_learn 77 = .ok (.if_icmp .eq 31, 3) := by decide +kernel
theorem dX5_learn_80 : decode cX5_learn 80 = .ok (.aload_n 0, 1) := by decide +kernel
theorem dX5_learn_81 : decode cX5_learn 81 = .ok (.getfield 35, 3) := by decide +kernel
theorem dX5_learn_84 : decode cX5_learn 84 = .ok (.iload_n 2, 1) := by decide +kernel
theorem dX5_learn_85 : decode cX5_learn 85 = .ok (.aload_n 0, 1) := by decide +kernel
theorem dX5_learn_86 : decode cX5_learn 86 = .ok (.getfield 35, 3) := by decide +kernel
theorem dX5_learn_89 : decode cX5_learn 89 = .ok (.iload_n 2, 1) := by decide +kernel
theorem dX5_learn_90 : decode cX5_learn 90 = .ok (.iaload, 1) := by decide +kernel
theorem dX5_learn_91 : decode cX5_learn 91 = .ok (.iconst 1, 1) := by decide +kernel
theorem dX5_learn_92 : decode cX5_learn 92 = .ok (.if_icmp .le 14, 3) := by decide +kernel
theorem dX5_learn_95 : decode cX5_learn 95 = .ok (.aload_n 0, 1) := by decide +kernel
theorem dX5_learn_96 : decode cX5_learn 96 = .ok (.getfield 35, 3) := by decide +kernel
theorem dX5_learn_99 : decode cX5_learn 99 = .ok (.iload_n 2, 1) := by decide +kernel
theorem dX5_learn_100 : decode cX5_learn 100 = .ok (.iaload, 1) := by decide +kernel
theorem dX5_learn_101 : decode cX5_learn 101 = .ok (.iconst 2, 1) := by decide +kernel
theorem dX5_learn_102 : decode cX5_learn 102 = .ok (.idiv, 1) := by decide +kernel
theorem dX5_learn_103 : decode cX5_learn 103 = .ok (.goto 4, 3) := by decide +kernel
theorem dX5_learn_106 : decode cX5_learn 106 = .ok (.iconst 1, 1) := by decide +kernel
theorem dX5_learn_107 : decode cX5_learn 107 = .ok (.iastore, 1) := by decide +kernel
theorem dX5_learn_108 : decode cX5_learn 108 = .ok (.aload_n 0, 1) := by decide +kernel
theorem dX5_learn_109 : decode cX5_learn 109 = .ok (.getfield 38, 3) := by decide +kernel
theorem dX5_learn_112 : decode cX5_learn 112 = .ok (.iload_n 2, 1) := by decide +kernel
theorem dX5_learn_113 : decode cX5_learn 113 = .ok (.iload_n 3, 1) := by decide +kernel
theorem dX5_learn_114 : decode cX5_learn 114 = .ok (.iastore, 1) := by decide +kernel
theorem dX5_learn_115 : decode cX5_learn 115 = .ok (.aload_n 0, 1) := by decide +kernel
theorem dX5_learn_116 : decode cX5_learn 116 = .ok (.getfield 41, 3) := by decide +kernel
theorem dX5_learn_119 : decode cX5_learn 119 = .ok (.iload_n 2, 1) := by decide +kernel
theorem dX5_learn_120 : decode cX5_learn 120 = .ok (.dup2, 1) := by decide +kernel
theorem dX5_learn_121 : decode cX5_learn 121 = .ok (.iaload, 1) := by decide +kernel
theorem dX5_learn_122 : decode cX5_learn 122 = .ok (.iconst 1, 1) := by decide +kernel
theorem dX5_learn_123 : decode cX5_learn 123 = .ok (.iadd, 1) := by decide +kernel
theorem dX5_learn_124 : decode cX5_learn 124 = .ok (.iastore, 1) := by decide +kernel
theorem dX5_learn_125 : decode cX5_learn 125 = .ok (.aload_n 0, 1) := by decide +kernel
theorem dX5_learn_126 : decode cX5_learn 126 = .ok (.getfield 32, 3) := by decide +kernel
theorem dX5_learn_129 : decode cX5_learn 129 = .ok (.iload_n 2, 1) := by decide +kernel
theorem dX5_learn_130 : decode cX5_learn 130 = .ok (.aload_n 0, 1) := by decide +kernel
theorem dX5_learn_131 : decode cX5_learn 131 = .ok (.iload_n 2, 1) := by decide +kernel
theorem dX5_learn_132 : decode cX5_learn 132 = .ok (.invokevirtual 77, 3) := by decide +kernel
theorem dX5_learn_135 : decode cX5_learn 135 = .ok (.iload_n 3, 1) := by decide +kernel
theorem dX5_learn_136 : decode cX5_learn 136 = .ok (.aload_n 0, 1) := by decide +kernel
theorem dX5_learn_137 : decode cX5_learn 137 = .ok (.getfield 35, 3) := by decide +kernel
theorem dX5_learn_140 : decode cX5_learn 140 = .ok (.iload_n 2, 1) := by decide +kernel
theorem dX5_learn_141 : decode cX5_learn 141 = .ok (.iaload, 1) := by decide +kernel
theorem dX5_learn_142 : decode cX5_learn 142 = .ok (.imul, 1) := by decide +kernel
theorem dX5_learn_143 : decode cX5_learn 143 = .ok (.iadd, 1) := by decide +kernel
theorem dX5_learn_144 : decode cX5_learn 144 = .ok (.invokestatic 87, 3) := by decide +kernel
theorem dX5_learn_147 : decode cX5_learn 147 = .ok (.aload_n 0, 1) := by decide +kernel
theorem dX5_learn_148 : decode cX5_learn 148 = .ok (.getfield 29, 3) := by decide +kernel
theorem dX5_learn_151 : decode cX5_learn 151 = .ok (.aload_n 0, 1) := by decide +kernel
theorem dX5_learn_152 : decode cX5_learn 152 = .ok (.iload_n 2, 1) := by decide +kernel
theorem dX5_learn_153 : decode cX5_learn 153 = .ok (.invokevirtual 73, 3) := by decide +kernel
theorem dX5_learn_156 : decode cX5_learn 156 = .ok (.iaload, 1) := by decide +kernel
theorem dX5_learn_157 : decode cX5_learn 157 = .ok (.isub, 1) := by decide +kernel
theorem dX5_learn_158 : decode cX5_learn 158 = .ok (.iastore, 1) := by decide +kernel
theorem dX5_learn_159 : decode cX5_learn 159 = .ok (.aload_n 0, 1) := by decide +kernel
theorem dX5_learn_160 : decode cX5_learn 160 = .ok (.aload_n 0, 1) := by decide +kernel
theorem dX5_learn_161 : decode cX5_learn 161 = .ok (.iload_n 2, 1) := by decide +kernel
theorem dX5_learn_162 : decode cX5_learn 162 = .ok (.invokevirtual 73, 3) := by decide +kernel
theorem dX5_learn_165 : decode cX5_learn 165 = .ok (.iload_n 3, 1) := by decide +kernel
theorem dX5_learn_166 : decode cX5_learn 166 = .ok (.invokevirtual 90, 3) := by decide +kernel
theorem dX5_learn_169 : decode cX5_learn 169 = .ok (.return_, 1) := by decide +kernel
theorem dX5_learnAll_0 : decode cX5_learnAll 0 = .ok (.iconst 0, 1) := by decide +kernel
theorem dX5_learnAll_1 : decode cX5_learnAll 1 = .ok (.istore_n 1, 1) := by decide +kernel
theorem dX5_learnAll_2 : decode cX5_learnAll 2 = .ok (.iload_n 1, 1) := by decide +kernel
theorem dX5_learnAll_3 : decode cX5_learnAll 3 = .ok (.bipush 16, 2) := by decide +kernel
theorem dX5_learnAll_5 : decode cX5_learnAll 5 = .ok (.if_icmp .ge 24, 3) := by decide +kernel
theorem dX5_learnAll_8 : decode cX5_learnAll 8 = .ok (.aload_n 0, 1) := by decide +kernel
theorem dX5_learnAll_9 : decode cX5_learnAll 9 = .ok (.getfield 29, 3) := by decide +kernel
theorem dX5_learnAll_12 : decode cX5_learnAll 12 = .ok (.iload_n 1, 1) := by decide +kernel
theorem dX5_learnAll_13 : decode cX5_learnAll 13 = .ok (.aload_n 0, 1) := by decide +kernel
theorem dX5_learnAll_14 : decode cX5_learnAll 14 = .ok (.getfield 7, 3) := by decide +kernel
theorem dX5_learnAll_17 : decode cX5_learnAll 17 = .ok (.bipush 38, 2) := by decide +kernel
theorem dX5_learnAll_19 : decode cX5_learnAll 19 = .ok (.iload_n 1, 1) := by decide +kernel
theorem dX5_learnAll_20 : decode cX5_learnAll 20 = .ok (.iadd, 1) := by decide +kernel
theorem dX5_learnAll_21 : decode cX5_learnAll 21 = .ok (.iaload, 1) := by decide +kernel
theorem dX5_learnAll_22 : decode cX5_learnAll 22 = .ok (.iastore, 1) := by decide +kernel
theorem dX5_learnAll_23 : decode cX5_learnAll 23 = .ok (.iinc 1 1, 3) := by decide +kernel
theorem dX5_learnAll_26 : decode cX5_learnAll 26 = .ok (.goto (-24), 3) := by decide +kernel
theorem dX5_learnAll_29 : decode cX5_learnAll 29 = .ok (.iconst 0, 1) := by decide +kernel
theorem dX5_learnAll_30 : decode cX5_learnAll 30 = .ok (.istore_n 1, 1) := by decide +kernel
theorem dX5_learnAll_31 : decode cX5_learnAll 31 = .ok (.iload_n 1, 1) := by decide +kernel
theorem dX5_learnAll_32 : decode cX5_learnAll 32 = .ok (.bipush 100, 2) := by decide +kernel
theorem dX5_learnAll_34 : decode cX5_learnAll 34 = .ok (.if_icmp .ge 30, 3) := by decide +kernel
theorem dX5_learnAll_37 : decode cX5_learnAll 37 = .ok (.aload_n 0, 1) := by decide +kernel
theorem dX5_learnAll_38 : decode cX5_learnAll 38 = .ok (.getfield 32, 3) := by decide +kernel
theorem dX5_learnAll_41 : decode cX5_learnAll 41 = .ok (.iload_n 1, 1) := by decide +kernel
theorem dX5_learnAll_42 : decode cX5_learnAll 42 = .ok (.iconst 0, 1) := by decide +kernel
theorem dX5_learnAll_43 : decode cX5_learnAll 43 = .ok (.iastore, 1) := by decide +kernel
theorem dX5_learnAll_44 : decode cX5_learnAll 44 = .ok (.aload_n 0, 1) := by decide +kernel
theorem dX5_learnAll_45 : decode cX5_learnAll 45 = .ok (.getfield 35, 3) := by decide +kernel
theorem dX5_learnAll_48 : decode cX5_learnAll 48 = .ok (.iload_n 1, 1) := by decide +kernel
theorem dX5_learnAll_49 : decode cX5_learnAll 49 = .ok (.iconst 0, 1) := by decide +kernel
theorem dX5_learnAll_50 : decode cX5_learnAll 50 = .ok (.iastore, 1) := by decide +kernel
theorem dX5_learnAll_51 : decode cX5_learnAll 51 = .ok (.aload_n 0, 1) := by decide +kernel
theorem dX5_learnAll_52 : decode cX5_learnAll 52 = .ok (.getfield 41, 3) := by decide +kernel
theorem dX5_learnAll_55 : decode cX5_learnAll 55 = .ok (.iload_n 1, 1) := by decide +kernel
theorem dX5_learnAll_56 : decode cX5_learnAll 56 = .ok (.iconst 0, 1) := by decide +kernel
theorem dX5_learnAll_57 : decode cX5_learnAll 57 = .ok (.iastore, 1) := by decide +kernel
theorem dX5_learnAll_58 : decode cX5_learnAll 58 = .ok (.iinc 1 1, 3) := by decide +kernel
theorem dX5_learnAll_61 : decode cX5_learnAll 61 = .ok (.goto (-30), 3) := by decide +kernel
theorem dX5_learnAll_64 : decode cX5_learnAll 64 = .ok (.iconst 0, 1) := by decide +kernel
theorem dX5_learnAll_65 : decode cX5_learnAll 65 = .ok (.istore_n 1, 1) := by decide +kernel
theorem dX5_learnAll_66 : decode cX5_learnAll 66 = .ok (.iload_n 1, 1) := by decide +kernel
theorem dX5_learnAll_67 : decode cX5_learnAll 67 = .ok (.aload_n 0, 1) := by decide +kernel
theorem dX5_learnAll_68 : decode cX5_learnAll 68 = .ok (.getfield 7, 3) := by decide +kernel
theorem dX5_learnAll_71 : decode cX5_learnAll 71 = .ok (.iconst 0, 1) := by decide +kernel
theorem dX5_learnAll_72 : decode cX5_learnAll 72 = .ok (.iaload, 1) := by decide +kernel
theorem dX5_learnAll_73 : decode cX5_learnAll 73 = .ok (.if_icmp .ge 14, 3) := by decide +kernel
theorem dX5_learnAll_76 : decode cX5_learnAll 76 = .ok (.aload_n 0, 1) := by decide +kernel
theorem dX5_learnAll_77 : decode cX5_learnAll 77 = .ok (.iload_n 1, 1) := by decide +kernel
theorem dX5_learnAll_78 : decode cX5_learnAll 78 = .ok (.invokevirtual 94, 3) := by decide +kernel
theorem dX5_learnAll_81 : decode cX5_learnAll 81 = .ok (.iinc 1 1, 3) := by decide +kernel
theorem dX5_learnAll_84 : decode cX5_learnAll 84 = .ok (.goto (-18), 3) := by decide +kernel
theorem dX5_learnAll_87 : decode cX5_learnAll 87 = .ok (.return_, 1) := by decide +kernel
theorem dX5_noteKernings_0 : decode cX5_noteKernings 0 = .ok (.iconst 0, 1) := by decide +kernel
theorem dX5_noteKernings_1 : decode cX5_noteKernings 1 = .ok (.istore_n 1, 1) := by decide +kernel
theorem dX5_noteKernings_2 : decode cX5_noteKernings 2 = .ok (.iload_n 1, 1) := by decide +kernel
theorem dX5_noteKernings_3 : decode cX5_noteKernings 3 = .ok (.bipush 100, 2) := by decide +kernel
theorem dX5_noteKernings_5 : decode cX5_noteKernings 5 = .ok (.if_icmp .ge 20, 3) := by decide +kernel
theorem dX5_noteKernings_8 : decode cX5_noteKernings 8 = .ok (.aload_n 0, 1) := by decide +kernel
theorem dX5_noteKernings_9 : decode cX5_noteKernings 9 = .ok (.getfield 47, 3) := by decide +kernel
theorem dX5_noteKernings_12 : decode cX5_noteKernings 12 = .ok (.iload_n 1, 1) := by decide +kernel
theorem dX5_noteKernings_13 : decode cX5_noteKernings 13 = .ok (.aload_n 0, 1) := by decide +kernel
theorem dX5_noteKernings_14 : decode cX5_noteKernings 14 = .ok (.iload_n 1, 1) := by decide +kernel
theorem dX5_noteKernings_15 : decode cX5_noteKernings 15 = .ok (.invokevirtual 77, 3) := by decide +kernel
theorem dX5_noteKernings_18 : decode cX5_noteKernings 18 = .ok (.iastore, 1) := by decide +kernel
theorem dX5_noteKernings_19 : decode cX5_noteKernings 19 = .ok (.iinc 1 1, 3) := by decide +kernel
theorem dX5_noteKernings_22 : decode cX5_noteKernings 22 = .ok (.goto (-20), 3) := by decide +kernel
theorem dX5_noteKernings_25 : decode cX5_noteKernings 25 = .ok (.return_, 1) := by decide +kernel
theorem dX5_otherKernings_0 : decode cX5_otherKernings 0 = .ok (.iconst 0, 1) := by decide +kernel
theorem dX5_otherKernings_1 : decode cX5_otherKernings 1 = .ok (.istore_n 1, 1) := by decide +kernel
theorem dX5_otherKernings_2 : decode cX5_otherKernings 2 = .ok (.iconst 0, 1) := by decide +kernel
theorem dX5_otherKernings_3 : decode cX5_otherKernings 3 = .ok (.istore_n 2, 1) := by decide +kernel
theorem dX5_otherKernings_4 : decode cX5_otherKernings 4 = .ok (.iload_n 2, 1) := by decide +kernel
theorem dX5_otherKernings_5 : decode cX5_otherKernings 5 = .ok (.bipush 100, 2) := by decide +kernel
theorem dX5_otherKernings_7 : decode cX5_otherKernings 7 = .ok (.if_icmp .ge 31, 3) := by decide +kernel
theorem dX5_otherKernings_10 : decode cX5_otherKernings 10 = .ok (.iload_n 1, 1) := by decide +kernel
theorem dX5_otherKernings_11 : decode cX5_otherKernings 11 = .ok (.aload_n 0, 1) := by decide +kernel
theorem dX5_otherKernings_12 : decode cX5_otherKernings 12 = .ok (.getfield 47, 3) := by decide +kernel
theorem dX5_otherKernings_15 : decode cX5_otherKernings 15 = .ok (.iload_n 2, 1) := by decide +kernel
theorem dX5_otherKernings_16 : decode cX5_otherKernings 16 = .ok (.iaload, 1) := by decide +kernel
theorem dX5_otherKernings_17 : decode cX5_otherKernings 17 = .ok (.aload_n 0, 1) := by decide +kernel
theorem dX5_otherKernings_18 : decode cX5_otherKernings 18 = .ok (.iload_n 2, 1) := by decide +kernel
theorem dX5_otherKernings_19 : decode cX5_otherKernings 19 = .ok (.invokevirtual 77, 3) := by decide +kernel
theorem dX5_otherKernings_22 : decode cX5_otherKernings 22 = .ok (.if_icmp .eq 7, 3) := by decide +kernel
theorem dX5_otherKernings_25 : decode cX5_otherKernings 25 = .ok (.iconst 1, 1) := by decide +kernel
theorem dX5_otherKernings_26 : decode cX5_otherKernings 26 = .ok (.goto 4, 3) := by decide +kernel
theorem dX5_otherKernings_29 : decode cX5_otherKernings 29 = .ok (.iconst 0, 1) := by decide +kernel
theorem dX5_otherKernings_30 : decode cX5_otherKernings 30 = .ok (.iadd, 1) := by decide +kernel
theorem dX5_otherKernings_31 : decode cX5_otherKernings 31 = .ok (.istore_n 1, 1) := by decide +kernel
theorem dX5_otherKernings_32 : decode cX5_otherKernings 32 = .ok (.iinc 2 1, 3) := by decide +kernel
theorem dX5_otherKernings_35 : decode cX5_otherKernings 35 = .ok (.goto (-31), 3) := by decide +kernel
theorem dX5_otherKernings_38 : decode cX5_otherKernings 38 = .ok (.iload_n 1, 1) := by decide +kernel
theorem dX5_otherKernings_39 : decode cX5_otherKernings 39 = .ok (.ireturn, 1) := by decide +kernel
theorem dX5_isRefused_0 : decode cX5_isRefused 0 = .ok (.aload_n 0, 1) := by decide +kernel
theorem dX5_isRefused_1 : decode cX5_isRefused 1 = .ok (.invokevirtual 98, 3) := by decide +kernel
theorem dX5_isRefused_4 : decode cX5_isRefused 4 = .ok (.aload_n 0, 1) := by decide +kernel
theorem dX5_isRefused_5 : decode cX5_isRefused 5 = .ok (.getfield 7, 3) := by decide +kernel
theorem dX5_isRefused_8 : decode cX5_isRefused 8 = .ok (.iconst 0, 1) := by decide +kernel
theorem dX5_isRefused_9 : decode cX5_isRefused 9 = .ok (.iaload, 1) := by decide +kernel
theorem dX5_isRefused_10 : decode cX5_isRefused 10 = .ok (.bipush 40, 2) := by decide +kernel
theorem dX5_isRefused_12 : decode cX5_isRefused 12 = .ok (.if_icmp .eq 12, 3) := by decide +kernel
theorem dX5_isRefused_15 : decode cX5_isRefused 15 = .ok (.aload_n 0, 1) := by decide +kernel
theorem dX5_isRefused_16 : decode cX5_isRefused 16 = .ok (.iload_n 1, 1) := by decide +kernel
theorem dX5_isRefused_17 : decode cX5_isRefused 17 = .ok (.iload_n 2, 1) := by decide +kernel
theorem dX5_isRefused_18 : decode cX5_isRefused 18 = .ok (.invokevirtual 83, 3) := by decide +kernel
theorem dX5_isRefused_21 : decode cX5_isRefused 21 = .ok (.ifCond .eq 7, 3) := by decide +kernel
theorem dX5_isRefused_24 : decode cX5_isRefused 24 = .ok (.iconst 1, 1) := by decide +kernel
theorem dX5_isRefused_25 : decode cX5_isRefused 25 = .ok (.goto 4, 3) := by decide +kernel
theorem dX5_isRefused_28 : decode cX5_isRefused 28 = .ok (.iconst 0, 1) := by decide +kernel
theorem dX5_isRefused_29 : decode cX5_isRefused 29 = .ok (.ireturn, 1) := by decide +kernel
theorem dX5_add_0 : decode cX5_add 0 = .ok (.bipush 54, 2) := by decide +kernel
theorem dX5_add_2 : decode cX5_add 2 = .ok (.iconst 3, 1) := by decide +kernel
theorem dX5_add_3 : decode cX5_add 3 = .ok (.aload_n 0, 1) := by decide +kernel
theorem dX5_add_4 : decode cX5_add 4 = .ok (.getfield 7, 3) := by decide +kernel
theorem dX5_add_7 : decode cX5_add 7 = .ok (.iconst 0, 1) := by decide +kernel
theorem dX5_add_8 : decode cX5_add 8 = .ok (.iaload, 1) := by decide +kernel
theorem dX5_add_9 : decode cX5_add 9 = .ok (.imul, 1) := by decide +kernel
theorem dX5_add_10 : decode cX5_add 10 = .ok (.iadd, 1) := by decide +kernel
theorem dX5_add_11 : decode cX5_add 11 = .ok (.istore_n 3, 1) := by decide +kernel
theorem dX5_add_12 : decode cX5_add 12 = .ok (.aload_n 0, 1) := by decide +kernel
theorem dX5_add_13 : decode cX5_add 13 = .ok (.getfield 7, 3) := by decide +kernel
theorem dX5_add_16 : decode cX5_add 16 = .ok (.iload_n 3, 1) := by decide +kernel
theorem dX5_add_17 : decode cX5_add 17 = .ok (.iconst 0, 1) := by decide +kernel
theorem dX5_add_18 : decode cX5_add 18 = .ok (.iadd, 1) := by decide +kernel
theorem dX5_add_19 : decode cX5_add 19 = .ok (.iload_n 1, 1) := by decide +kernel
theorem dX5_add_20 : decode cX5_add 20 = .ok (.bipush 10, 2) := by decide +kernel
theorem dX5_add_22 : decode cX5_add 22 = .ok (.idiv, 1) := by decide +kernel
theorem dX5_add_23 : decode cX5_add 23 = .ok (.iastore, 1) := by decide +kernel
theorem dX5_add_24 : decode cX5_add 24 = .ok (.aload_n 0, 1) := by decide +kernel
theorem dX5_add_25 : decode cX5_add 25 = .ok (.getfield 7, 3) := by decide +kernel
theorem dX5_add_28 : decode cX5_add 28 = .ok (.iload_n 3, 1) := by decide +kernel
theorem dX5_add_29 : decode cX5_add 29 = .ok (.iconst 1, 1) := by decide +kernel
theorem dX5_add_30 : decode cX5_add 30 = .ok (.iadd, 1) := by decide +kernel
theorem dX5_add_31 : decode cX5_add 31 = .ok (.iload_n 1, 1) := by decide +kernel
theorem dX5_add_32 : decode cX5_add 32 = .ok (.bipush 10, 2) := by decide +kernel
theorem dX5_add_34 : decode cX5_add 34 = .ok (.irem, 1) := by decide +kernel
theorem dX5_add_35 : decode cX5_add 35 = .ok (.iastore, 1) := by decide +kernel
theorem dX5_add_36 : decode cX5_add 36 = .ok (.aload_n 0, 1) := by decide +kernel
theorem dX5_add_37 : decode cX5_add 37 = .ok (.getfield 7, 3) := by decide +kernel
theorem dX5_add_40 : decode cX5_add 40 = .ok (.iload_n 3, 1) := by decide +kernel
theorem dX5_add_41 : decode cX5_add 41 = .ok (.iconst 2, 1) := by decide +kernel
theorem dX5_add_42 : decode cX5_add 42 = .ok (.iadd, 1) := by decide +kernel
theorem dX5_add_43 : decode cX5_add 43 = .ok (.iload_n 2, 1) := by decide +kernel
theorem dX5_add_44 : decode cX5_add 44 = .ok (.iastore, 1) := by decide +kernel
theorem dX5_add_45 : decode cX5_add 45 = .ok (.aload_n 0, 1) := by decide +kernel
theorem dX5_add_46 : decode cX5_add 46 = .ok (.getfield 7, 3) := by decide +kernel
theorem dX5_add_49 : decode cX5_add 49 = .ok (.iconst 0, 1) := by decide +kernel
theorem dX5_add_50 : decode cX5_add 50 = .ok (.dup2, 1) := by decide +kernel
theorem dX5_add_51 : decode cX5_add 51 = .ok (.iaload, 1) := by decide +kernel
theorem dX5_add_52 : decode cX5_add 52 = .ok (.iconst 1, 1) := by decide +kernel
theorem dX5_add_53 : decode cX5_add 53 = .ok (.iadd, 1) := by decide +kernel
theorem dX5_add_54 : decode cX5_add 54 = .ok (.iastore, 1) := by decide +kernel
theorem dX5_add_55 : decode cX5_add 55 = .ok (.return_, 1) := by decide +kernel
theorem dX5_circles_0 : decode cX5_circles 0 = .ok (.aload_n 0, 1) := by decide +kernel
theorem dX5_circles_1 : decode cX5_circles 1 = .ok (.iload_n 1, 1) := by decide +kernel
theorem dX5_circles_2 : decode cX5_circles 2 = .ok (.iload_n 2, 1) := by decide +kernel
theorem dX5_circles_3 : decode cX5_circles 3 = .ok (.invokevirtual 101, 3) := by decide +kernel
theorem dX5_circles_6 : decode cX5_circles 6 = .ok (.ifCond .eq 15, 3) := by decide +kernel
theorem dX5_circles_9 : decode cX5_circles 9 = .ok (.aload_n 0, 1) := by decide +kernel
theorem dX5_circles_10 : decode cX5_circles 10 = .ok (.getfield 7, 3) := by decide +kernel
theorem dX5_circles_13 : decode cX5_circles 13 = .ok (.iconst 5, 1) := by decide +kernel
theorem dX5_circles_14 : decode cX5_circles 14 = .ok (.dup2, 1) := by decide +kernel
theorem dX5_circles_15 : decode cX5_circles 15 = .ok (.iaload, 1) := by decide +kernel
theorem dX5_circles_16 : decode cX5_circles 16 = .ok (.iconst 1, 1) := by decide +kernel
theorem dX5_circles_17 : decode cX5_circles 17 = .ok (.iadd, 1) := by decide +kernel
theorem dX5_circles_18 : decode cX5_circles 18 = .ok (.iastore, 1) := by decide +kernel
theorem dX5_circles_19 : decode cX5_circles 19 = .ok (.iconst (-1), 1) := by decide +kernel
theorem dX5_circles_20 : decode cX5_circles 20 = .ok (.ireturn, 1) := by decide +kernel
theorem dX5_circles_21 : decode cX5_circles 21 = .ok (.aload_n 0, 1) := by decide +kernel
theorem dX5_circles_22 : decode cX5_circles 22 = .ok (.iload_n 1, 1) := by decide +kernel
theorem dX5_circles_23 : decode cX5_circles 23 = .ok (.iload_n 2, 1) := by decide +kernel
theorem dX5_circles_24 : decode cX5_circles 24 = .ok (.invokevirtual 104, 3) := by decide +kernel
theorem dX5_circles_27 : decode cX5_circles 27 = .ok (.aload_n 0, 1) := by decide +kernel
theorem dX5_circles_28 : decode cX5_circles 28 = .ok (.invokevirtual 98, 3) := by decide +kernel
theorem dX5_circles_31 : decode cX5_circles 31 = .ok (.aload_n 0, 1) := by decide +kernel
theorem dX5_circles_32 : decode cX5_circles 32 = .ok (.iload_n 1, 1) := by decide +kernel
theorem dX5_circles_33 : decode cX5_circles 33 = .ok (.invokevirtual 77, 3) := by decide +kernel
theorem dX5_circles_36 : decode cX5_circles 36 = .ok (.bipush 100, 2) := by decide +kernel
theorem dX5_circles_38 : decode cX5_circles 38 = .ok (.iadd, 1) := by decide +kernel
theorem dX5_circles_39 : decode cX5_circles 39 = .ok (.ireturn, 1) := by decide +kernel
theorem dX5_drops_0 : decode cX5_drops 0 = .ok (.aload_n 0, 1) := by decide +kernel
theorem dX5_drops_1 : decode cX5_drops 1 = .ok (.invokevirtual 98, 3) := by decide +kernel
theorem dX5_drops_4 : decode cX5_drops 4 = .ok (.aload_n 0, 1) := by decide +kernel
theorem dX5_drops_5 : decode cX5_drops 5 = .ok (.invokevirtual 107, 3) := by decide +kernel
theorem dX5_drops_8 : decode cX5_drops 8 = .ok (.aload_n 0, 1) := by decide +kernel
theorem dX5_drops_9 : decode cX5_drops 9 = .ok (.getfield 7, 3) := by decide +kernel
theorem dX5_drops_12 : decode cX5_drops 12 = .ok (.iconst 0, 1) := by decide +kernel
theorem dX5_drops_13 : decode cX5_drops 13 = .ok (.dup2, 1) := by decide +kernel
theorem dX5_drops_14 : decode cX5_drops 14 = .ok (.iaload, 1) := by decide +kernel
theorem dX5_drops_15 : decode cX5_drops 15 = .ok (.iconst 1, 1) := by decide +kernel
theorem dX5_drops_16 : decode cX5_drops 16 = .ok (.isub, 1) := by decide +kernel
theorem dX5_drops_17 : decode cX5_drops 17 = .ok (.iastore, 1) := by decide +kernel
theorem dX5_drops_18 : decode cX5_drops 18 = .ok (.bipush 54, 2) := by decide +kernel
theorem dX5_drops_20 : decode cX5_drops 20 = .ok (.iconst 3, 1) := by decide +kernel
theorem dX5_drops_21 : decode cX5_drops 21 = .ok (.iload_n 1, 1) := by decide +kernel
theorem dX5_drops_22 : decode cX5_drops 22 = .ok (.imul, 1) := by decide +kernel
theorem dX5_drops_23 : decode cX5_drops 23 = .ok (.iadd, 1) := by decide +kernel
theorem dX5_drops_24 : decode cX5_drops 24 = .ok (.istore_n 2, 1) := by decide +kernel
theorem dX5_drops_25 : decode cX5_drops 25 = .ok (.iload_n 2, 1) := by decide +kernel
theorem dX5_drops_26 : decode cX5_drops 26 = .ok (.bipush 54, 2) := by decide +kernel
theorem dX5_drops_28 : decode cX5_drops 28 = .ok (.iconst 3, 1) := by decide +kernel
theorem dX5_drops_29 : decode cX5_drops 29 = .ok (.aload_n 0, 1) := by decide +kernel
theorem dX5_drops_30 : decode cX5_drops 30 = .ok (.getfield 7, 3) := by decide +kernel
theorem dX5_drops_33 : decode cX5_drops 33 = .ok (.iconst 0, 1) := by decide +kernel
theorem dX5_drops_34 : decode cX5_drops 34 = .ok (.iaload, 1) := by decide +kernel
theorem dX5_drops_35 : decode cX5_drops 35 = .ok (.imul, 1) := by decide +kernel
theorem dX5_drops_36 : decode cX5_drops 36 = .ok (.iadd, 1) := by decide +kernel
theorem dX5_drops_37 : decode cX5_drops 37 = .ok (.if_icmp .ge 23, 3) := by decide +kernel
theorem dX5_drops_40 : decode cX5_drops 40 = .ok (.aload_n 0, 1) := by decide +kernel
theorem dX5_drops_41 : decode cX5_drops 41 = .ok (.getfield 7, 3) := by decide +kernel
theorem dX5_drops_44 : decode cX5_drops 44 = .ok (.iload_n 2, 1) := by decide +kernel
theorem dX5_drops_45 : decode cX5_drops 45 = .ok (.aload_n 0, 1) := by decide +kernel
theorem dX5_drops_46 : decode cX5_drops 46 = .ok (.getfield 7, 3) := by decide +kernel
theorem dX5_drops_49 : decode cX5_drops 49 = .ok (.iload_n 2, 1) := by decide +kernel
theorem dX5_drops_50 : decode cX5_drops 50 = .ok (.iconst 3, 1) := by decide +kernel
theorem dX5_drops_51 : decode cX5_drops 51 = .ok (.iadd, 1) := by decide +kernel
theorem dX5_drops_52 : decode cX5_drops 52 = .ok (.iaload, 1) := by decide +kernel
theorem dX5_drops_53 : decode cX5_drops 53 = .ok (.iastore, 1) := by decide +kernel
theorem dX5_drops_54 : decode cX5_drops 54 = .ok (.iinc 2 1, 3) := by decide +kernel
theorem dX5_drops_57 : decode cX5_drops 57 = .ok (.goto (-32), 3) := by decide +kernel
theorem dX5_drops_60 : decode cX5_drops 60 = .ok (.aload_n 0, 1) := by decide +kernel
theorem dX5_drops_61 : decode cX5_drops 61 = .ok (.invokevirtual 98, 3) := by decide +kernel
theorem dX5_drops_64 : decode cX5_drops 64 = .ok (.aload_n 0, 1) := by decide +kernel
theorem dX5_drops_65 : decode cX5_drops 65 = .ok (.invokevirtual 110, 3) := by decide +kernel
theorem dX5_drops_68 : decode cX5_drops 68 = .ok (.ireturn, 1) := by decide +kernel
theorem dX5_width_0 : decode cX5_width 0 = .ok (.aload_n 0, 1) := by decide +kernel
theorem dX5_width_1 : decode cX5_width 1 = .ok (.iload_n 1, 1) := by decide +kernel
theorem dX5_width_2 : decode cX5_width 2 = .ok (.invokestatic 114, 3) := by decide +kernel
theorem dX5_width_5 : decode cX5_width 5 = .ok (.ifCond .ne 7, 3) := by decide +kernel
theorem dX5_width_8 : decode cX5_width 8 = .ok (.iconst 1, 1) := by decide +kernel
theorem dX5_width_9 : decode cX5_width 9 = .ok (.goto 19, 3) := by decide +kernel
theorem dX5_width_12 : decode cX5_width 12 = .ok (.iload_n 2, 1) := by decide +kernel
theorem dX5_width_13 : decode cX5_width 13 = .ok (.bipush 13, 2) := by decide +kernel
theorem dX5_width_15 : decode cX5_width 15 = .ok (.bipush 30, 2) := by decide +kernel
theorem dX5_width_17 : decode cX5_width 17 = .ok (.invokestatic 58, 3) := by decide +kernel
theorem dX5_width_20 : decode cX5_width 20 = .ok (.ifCond .ne 7, 3) := by decide +kernel
theorem dX5_width_23 : decode cX5_width 23 = .ok (.iconst 2, 1) := by decide +kernel
theorem dX5_width_24 : decode cX5_width 24 = .ok (.goto 4, 3) := by decide +kernel
theorem dX5_width_27 : decode cX5_width 27 = .ok (.iconst 0, 1) := by decide +kernel
theorem dX5_width_28 : decode cX5_width 28 = .ok (.invokevirtual 118, 3) := by decide +kernel
theorem dX5_width_31 : decode cX5_width 31 = .ok (.ifCond .ne 5, 3) := by decide +kernel
theorem dX5_width_34 : decode cX5_width 34 = .ok (.iconst 0, 1) := by decide +kernel
theorem dX5_width_35 : decode cX5_width 35 = .ok (.ireturn, 1) := by decide +kernel
theorem dX5_width_36 : decode cX5_width 36 = .ok (.aload_n 0, 1) := by decide +kernel
theorem dX5_width_37 : decode cX5_width 37 = .ok (.invokevirtual 121, 3) := by decide +kernel
theorem dX5_width_40 : decode cX5_width 40 = .ok (.aload_n 0, 1) := by decide +kernel
theorem dX5_width_41 : decode cX5_width 41 = .ok (.iload_n 1, 1) := by decide +kernel
theorem dX5_width_42 : decode cX5_width 42 = .ok (.iconst 0, 1) := by decide +kernel
theorem dX5_width_43 : decode cX5_width 43 = .ok (.invokevirtual 62, 3) := by decide +kernel
theorem dX5_width_46 : decode cX5_width 46 = .ok (.istore_n 3, 1) := by decide +kernel
theorem dX5_width_47 : decode cX5_width 47 = .ok (.aload_n 0, 1) := by decide +kernel
theorem dX5_width_48 : decode cX5_width 48 = .ok (.iload_n 1, 1) := by decide +kernel
theorem dX5_width_49 : decode cX5_width 49 = .ok (.iconst 0, 1) := by decide +kernel
theorem dX5_width_50 : decode cX5_width 50 = .ok (.iload_n 2, 1) := by decide +kernel
theorem dX5_width_51 : decode cX5_width 51 = .ok (.invokevirtual 50, 3) := by decide +kernel
theorem dX5_width_54 : decode cX5_width 54 = .ok (.iload_n 3, 1) := by decide +kernel
theorem dX5_width_55 : decode cX5_width 55 = .ok (.ireturn, 1) := by decide +kernel
theorem dX5_shape_0 : decode cX5_shape 0 = .ok (.aload_n 0, 1) := by decide +kernel
theorem dX5_shape_1 : decode cX5_shape 1 = .ok (.iload_n 1, 1) := by decide +kernel
theorem dX5_shape_2 : decode cX5_shape 2 = .ok (.invokestatic 114, 3) := by decide +kernel
theorem dX5_shape_5 : decode cX5_shape 5 = .ok (.ifCond .ne 7, 3) := by decide +kernel
theorem dX5_shape_8 : decode cX5_shape 8 = .ok (.iconst 1, 1) := by decide +kernel
theorem dX5_shape_9 : decode cX5_shape 9 = .ok (.goto 22, 3) := by decide +kernel
theorem dX5_shape_12 : decode cX5_shape 12 = .ok (.iload_n 2, 1) := by decide +kernel
theorem dX5_shape_13 : decode cX5_shape 13 = .ok (.invokestatic 124, 3) := by decide +kernel
theorem dX5_shape_16 : decode cX5_shape 16 = .ok (.ifCond .eq 10, 3) := by decide +kernel
theorem dX5_shape_19 : decode cX5_shape 19 = .ok (.iload_n 3, 1) := by decide +kernel
theorem dX5_shape_20 : decode cX5_shape 20 = .ok (.invokestatic 124, 3) := by decide +kernel
theorem dX5_shape_23 : decode cX5_shape 23 = .ok (.ifCond .ne 7, 3) := by decide +kernel
theorem dX5_shape_26 : decode cX5_shape 26 = .ok (.iconst 2, 1) := by decide +kernel
theorem dX5_shape_27 : decode cX5_shape 27 = .ok (.goto 4, 3) := by decide +kernel
theorem dX5_shape_30 : decode cX5_shape 30 = .ok (.iconst 0, 1) := by decide +kernel
theorem dX5_shape_31 : decode cX5_shape 31 = .ok (.invokevirtual 118, 3) := by decide +kernel
theorem dX5_shape_34 : decode cX5_shape 34 = .ok (.ifCond .ne 5, 3) := by decide +kernel
theorem dX5_shape_37 : decode cX5_shape 37 = .ok (.iconst 0, 1) := by decide +kernel
theorem dX5_shape_38 : decode cX5_shape 38 = .ok (.ireturn, 1) := by decide +kernel
theorem dX5_shape_39 : decode cX5_shape 39 = .ok (.aload_n 0, 1) := by decide +kernel
theorem dX5_shape_40 : decode cX5_shape 40 = .ok (.invokevirtual 121, 3) := by decide +kernel
theorem dX5_shape_43 : decode cX5_shape 43 = .ok (.iconst 4, 1) := by decide +kernel
theorem dX5_shape_44 : decode cX5_shape 44 = .ok (.aload_n 0, 1) := by decide +kernel
theorem dX5_shape_45 : decode cX5_shape 45 = .ok (.iload_n 1, 1) := by decide +kernel
theorem dX5_shape_46 : decode cX5_shape 46 = .ok (.iconst 1, 1) := by decide +kernel
theorem dX5_shape_47 : decode cX5_shape 47 = .ok (.invokevirtual 62, 3) := by decide +kernel
theorem dX5_shape_50 : decode cX5_shape 50 = .ok (.imul, 1) := by decide +kernel
theorem dX5_shape_51 : decode cX5_shape 51 = .ok (.aload_n 0, 1) := by decide +kernel
theorem dX5_shape_52 : decode cX5_shape 52 = .ok (.iload_n 1, 1) := by decide +kernel
theorem dX5_shape_53 : decode cX5_shape 53 = .ok (.iconst 2, 1) := by decide +kernel
theorem dX5_shape_54 : decode cX5_shape 54 = .ok (.invokevirtual 62, 3) := by decide +kernel
theorem dX5_shape_57 : decode cX5_shape 57 = .ok (.iadd, 1) := by decide +kernel
theorem dX5_shape_58 : decode cX5_shape 58 = .ok (.istore 4, 2) := by decide +kernel
theorem dX5_shape_60 : decode cX5_shape 60 = .ok (.aload_n 0, 1) := by decide +kernel
theorem dX5_shape_61 : decode cX5_shape 61 = .ok (.iload_n 1, 1) := by decide +kernel
theorem dX5_shape_62 : decode cX5_shape 62 = .ok (.iconst 1, 1) := by decide +kernel
theorem dX5_shape_63 : decode cX5_shape 63 = .ok (.iload_n 2, 1) := by decide +kernel
theorem dX5_shape_64 : decode cX5_shape 64 = .ok (.invokevirtual 50, 3) := by decide +kernel
theorem dX5_shape_67 : decode cX5_shape 67 = .ok (.aload_n 0, 1) := by decide +kernel
theorem dX5_shape_68 : decode cX5_shape 68 = .ok (.iload_n 1, 1) := by decide +kernel
theorem dX5_shape_69 : decode cX5_shape 69 = .ok (.iconst 2, 1) := by decide +kernel
theorem dX5_shape_70 : decode cX5_shape 70 = .ok (.iload_n 3, 1) := by decide +kernel
theorem dX5_shape_71 : decode cX5_shape 71 = .ok (.invokevirtual 50, 3) := by decide +kernel
theorem dX5_shape_74 : decode cX5_shape 74 = .ok (.aload_n 0, 1) := by decide +kernel
theorem dX5_shape_75 : decode cX5_shape 75 = .ok (.getfield 7, 3) := by decide +kernel
theorem dX5_shape_78 : decode cX5_shape 78 = .ok (.bipush 7, 2) := by decide +kernel
theorem dX5_shape_80 : decode cX5_shape 80 = .ok (.dup2, 1) := by decide +kernel
theorem dX5_shape_81 : decode cX5_shape 81 = .ok (.iaload, 1) := by decide +kernel
theorem dX5_shape_82 : decode cX5_shape 82 = .ok (.iconst 1, 1) := by decide +kernel
theorem dX5_shape_83 : decode cX5_shape 83 = .ok (.iadd, 1) := by decide +kernel
theorem dX5_shape_84 : decode cX5_shape 84 = .ok (.iastore, 1) := by decide +kernel
theorem dX5_shape_85 : decode cX5_shape 85 = .ok (.iload 4, 2) := by decide +kernel
theorem dX5_shape_87 : decode cX5_shape 87 = .ok (.ireturn, 1) := by decide +kernel
theorem dX5_base_0 : decode cX5_base 0 = .ok (.aload_n 0, 1) := by decide +kernel
theorem dX5_base_1 : decode cX5_base 1 = .ok (.iload_n 1, 1) := by decide +kernel
theorem dX5_base_2 : decode cX5_base 2 = .ok (.invokestatic 124, 3) := by decide +kernel
theorem dX5_base_5 : decode cX5_base 5 = .ok (.ifCond .eq 10, 3) := by decide +kernel
theorem dX5_base_8 : decode cX5_base 8 = .ok (.iload_n 2, 1) := by decide +kernel
theorem dX5_base_9 : decode cX5_base 9 = .ok (.invokestatic 124, 3) := by decide +kernel
theorem dX5_base_12 : decode cX5_base 12 = .ok (.ifCond .ne 7, 3) := by decide +kernel
theorem dX5_base_15 : decode cX5_base 15 = .ok (.iconst 1, 1) := by decide +kernel
theorem dX5_base_16 : decode cX5_base 16 = .ok (.goto 19, 3) := by decide +kernel
theorem dX5_base_19 : decode cX5_base 19 = .ok (.iload_n 3, 1) := by decide +kernel
theorem dX5_base_20 : decode cX5_base 20 = .ok (.bipush (-12), 2) := by decide +kernel
theorem dX5_base_22 : decode cX5_base 22 = .ok (.bipush 12, 2) := by decide +kernel
theorem dX5_base_24 : decode cX5_base 24 = .ok (.invokestatic 58, 3) := by decide +kernel
theorem dX5_base_27 : decode cX5_base 27 = .ok (.ifCond .ne 7, 3) := by decide +kernel
theorem dX5_base_30 : decode cX5_base 30 = .ok (.iconst 2, 1) := by decide +kernel
theorem dX5_base_31 : decode cX5_base 31 = .ok (.goto 4, 3) := by decide +kernel
theorem dX5_base_34 : decode cX5_base 34 = .ok (.iconst 0, 1) := by decide +kernel
theorem dX5_base_35 : decode cX5_base 35 = .ok (.invokevirtual 118, 3) := by decide +kernel
theorem dX5_base_38 : decode cX5_base 38 = .ok (.ifCond .ne 5, 3) := by decide +kernel
theorem dX5_base_41 : decode cX5_base 41 = .ok (.iconst 0, 1) := by decide +kernel
theorem dX5_base_42 : decode cX5_base 42 = .ok (.ireturn, 1) := by decide +kernel
theorem dX5_base_43 : decode cX5_base 43 = .ok (.aload_n 0, 1) := by decide +kernel
theorem dX5_base_44 : decode cX5_base 44 = .ok (.invokevirtual 121, 3) := by decide +kernel
theorem dX5_base_47 : decode cX5_base 47 = .ok (.aload_n 0, 1) := by decide +kernel
theorem dX5_base_48 : decode cX5_base 48 = .ok (.getfield 7, 3) := by decide +kernel
theorem dX5_base_51 : decode cX5_base 51 = .ok (.bipush 38, 2) := by decide +kernel
theorem dX5_base_53 : decode cX5_base 53 = .ok (.iconst 4, 1) := by decide +kernel
theorem dX5_base_54 : decode cX5_base 54 = .ok (.iload_n 1, 1) := by decide +kernel
theorem dX5_base_55 : decode cX5_base 55 = .ok (.imul, 1) := by decide +kernel
theorem dX5_base_56 : decode cX5_base 56 = .ok (.iadd, 1) := by decide +kernel
theorem dX5_base_57 : decode cX5_base 57 = .ok (.iload_n 2, 1) := by decide +kernel
theorem dX5_base_58 : decode cX5_base 58 = .ok (.iadd, 1) := by decide +kernel
theorem dX5_base_59 : decode cX5_base 59 = .ok (.iaload, 1) := by decide +kernel
theorem dX5_base_60 : decode cX5_base 60 = .ok (.istore 4, 2) := by decide +kernel
theorem dX5_base_62 : decode cX5_base 62 = .ok (.aload_n 0, 1) := by decide +kernel
theorem dX5_base_63 : decode cX5_base 63 = .ok (.getfield 7, 3) := by decide +kernel
theorem dX5_base_66 : decode cX5_base 66 = .ok (.bipush 38, 2) := by decide +kernel
theorem dX5_base_68 : decode cX5_base 68 = .ok (.iconst 4, 1) := by decide +kernel
theorem dX5_base_69 : decode cX5_base 69 = .ok (.iload_n 1, 1) := by decide +kernel
theorem dX5_base_70 : decode cX5_base 70 = .ok (.imul, 1) := by decide +kernel
theorem dX5_base_71 : decode cX5_base 71 = .ok (.iadd, 1) := by decide +kernel
theorem dX5_base_72 : decode cX5_base 72 = .ok (.iload_n 2, 1) := by decide +kernel
theorem dX5_base_73 : decode cX5_base 73 = .ok (.iadd, 1) := by decide +kernel
theorem dX5_base_74 : decode cX5_base 74 = .ok (.iload_n 3, 1) := by decide +kernel
theorem dX5_base_75 : decode cX5_base 75 = .ok (.iastore, 1) := by decide +kernel
theorem dX5_base_76 : decode cX5_base 76 = .ok (.aload_n 0, 1) := by decide +kernel
theorem dX5_base_77 : decode cX5_base 77 = .ok (.getfield 7, 3) := by decide +kernel
theorem dX5_base_80 : decode cX5_base 80 = .ok (.bipush 7, 2) := by decide +kernel
theorem dX5_base_82 : decode cX5_base 82 = .ok (.dup2, 1) := by decide +kernel
theorem dX5_base_83 : decode cX5_base 83 = .ok (.iaload, 1) := by decide +kernel
theorem dX5_base_84 : decode cX5_base 84 = .ok (.iconst 1, 1) := by decide +kernel
theorem dX5_base_85 : decode cX5_base 85 = .ok (.iadd, 1) := by decide +kernel
theorem dX5_base_86 : decode cX5_base 86 = .ok (.iastore, 1) := by decide +kernel
theorem dX5_base_87 : decode cX5_base 87 = .ok (.iload 4, 2) := by decide +kernel
theorem dX5_base_89 : decode cX5_base 89 = .ok (.bipush 100, 2) := by decide +kernel
theorem dX5_base_91 : decode cX5_base 91 = .ok (.iadd, 1) := by decide +kernel
theorem dX5_base_92 : decode cX5_base 92 = .ok (.ireturn, 1) := by decide +kernel
theorem dX5_fits_0 : decode cX5_fits 0 = .ok (.iload_n 0, 1) := by decide +kernel
theorem dX5_fits_1 : decode cX5_fits 1 = .ok (.ifCond .ne 13, 3) := by decide +kernel
theorem dX5_fits_4 : decode cX5_fits 4 = .ok (.iload_n 1, 1) := by decide +kernel
theorem dX5_fits_5 : decode cX5_fits 5 = .ok (.iconst 1, 1) := by decide +kernel
theorem dX5_fits_6 : decode cX5_fits 6 = .ok (.bipush 6, 2) := by decide +kernel
theorem dX5_fits_8 : decode cX5_fits 8 = .ok (.invokestatic 58, 3) := by decide +kernel
theorem dX5_fits_11 : decode cX5_fits 11 = .ok (.goto 41, 3) := by decide +kernel
theorem dX5_fits_14 : decode cX5_fits 14 = .ok (.iload_n 0, 1) := by decide +kernel
theorem dX5_fits_15 : decode cX5_fits 15 = .ok (.iconst 1, 1) := by decide +kernel
theorem dX5_fits_16 : decode cX5_fits 16 = .ok (.if_icmp .ne 12, 3) := by decide +kernel
theorem dX5_fits_19 : decode cX5_fits 19 = .ok (.iload_n 1, 1) := by decide +kernel
theorem dX5_fits_20 : decode cX5_fits 20 = .ok (.iconst 2, 1) := by decide +kernel
theorem dX5_fits_21 : decode cX5_fits 21 = .ok (.iconst 5, 1) := by decide +kernel
theorem dX5_fits_22 : decode cX5_fits 22 = .ok (.invokestatic 58, 3) := by decide +kernel
theorem dX5_fits_25 : decode cX5_fits 25 = .ok (.goto 27, 3) := by decide +kernel
theorem dX5_fits_28 : decode cX5_fits 28 = .ok (.iload_n 0, 1) := by decide +kernel
theorem dX5_fits_29 : decode cX5_fits 29 = .ok (.iconst 2, 1) := by decide +kernel
theorem dX5_fits_30 : decode cX5_fits 30 = .ok (.if_icmp .ne 13, 3) := by decide +kernel
theorem dX5_fits_33 : decode cX5_fits 33 = .ok (.iload_n 1, 1) := by decide +kernel
theorem dX5_fits_34 : decode cX5_fits 34 = .ok (.iconst 1, 1) := by decide +kernel
theorem dX5_fits_35 : decode cX5_fits 35 = .ok (.bipush 20, 2) := by decide +kernel
theorem dX5_fits_37 : decode cX5_fits 37 = .ok (.invokestatic 58, 3) := by decide +kernel
theorem dX5_fits_40 : decode cX5_fits 40 = .ok (.goto 12, 3) := by decide +kernel
theorem dX5_fits_43 : decode cX5_fits 43 = .ok (.iload_n 1, 1) := by decide +kernel
theorem dX5_fits_44 : decode cX5_fits 44 = .ok (.bipush 40, 2) := by decide +kernel
theorem dX5_fits_46 : decode cX5_fits 46 = .ok (.sipush 600, 3) := by decide +kernel
theorem dX5_fits_49 : decode cX5_fits 49 = .ok (.invokestatic 58, 3) := by decide +kernel
theorem dX5_fits_52 : decode cX5_fits 52 = .ok (.ireturn, 1) := by decide +kernel
theorem dX5_set_0 : decode cX5_set 0 = .ok (.aload_n 0, 1) := by decide +kernel
theorem dX5_set_1 : decode cX5_set 1 = .ok (.iload_n 1, 1) := by decide +kernel
theorem dX5_set_2 : decode cX5_set 2 = .ok (.iconst 0, 1) := by decide +kernel
theorem dX5_set_3 : decode cX5_set 3 = .ok (.iconst 3, 1) := by decide +kernel
theorem dX5_set_4 : decode cX5_set 4 = .ok (.invokestatic 58, 3) := by decide +kernel
theorem dX5_set_7 : decode cX5_set 7 = .ok (.ifCond .ne 7, 3) := by decide +kernel
theorem dX5_set_10 : decode cX5_set 10 = .ok (.iconst 1, 1) := by decide +kernel
theorem dX5_set_11 : decode cX5_set 11 = .ok (.goto 16, 3) := by decide +kernel
theorem dX5_set_14 : decode cX5_set 14 = .ok (.iload_n 1, 1) := by decide +kernel
theorem dX5_set_15 : decode cX5_set 15 = .ok (.iload_n 2, 1) := by decide +kernel
theorem dX5_set_16 : decode cX5_set 16 = .ok (.invokestatic 127, 3) := by decide +kernel
theorem dX5_set_19 : decode cX5_set 19 = .ok (.ifCond .ne 7, 3) := by decide +kernel
theorem dX5_set_22 : decode cX5_set 22 = .ok (.iconst 2, 1) := by decide +kernel
theorem dX5_set_23 : decode cX5_set 23 = .ok (.goto 4, 3) := by decide +kernel
theorem dX5_set_26 : decode cX5_set 26 = .ok (.iconst 0, 1) := by decide +kernel
theorem dX5_set_27 : decode cX5_set 27 = .ok (.invokevirtual 118, 3) := by decide +kernel
theorem dX5_set_30 : decode cX5_set 30 = .ok (.ifCond .ne 5, 3) := by decide +kernel
theorem dX5_set_33 : decode cX5_set 33 = .ok (.iconst 0, 1) := by decide +kernel
theorem dX5_set_34 : decode cX5_set 34 = .ok (.ireturn, 1) := by decide +kernel
theorem dX5_set_35 : decode cX5_set 35 = .ok (.aload_n 0, 1) := by decide +kernel
theorem dX5_set_36 : decode cX5_set 36 = .ok (.invokevirtual 121, 3) := by decide +kernel
theorem dX5_set_39 : decode cX5_set 39 = .ok (.aload_n 0, 1) := by decide +kernel
theorem dX5_set_40 : decode cX5_set 40 = .ok (.getfield 7, 3) := by decide +kernel
theorem dX5_set_43 : decode cX5_set 43 = .ok (.iconst 1, 1) := by decide +kernel
theorem dX5_set_44 : decode cX5_set 44 = .ok (.iload_n 1, 1) := by decide +kernel
theorem dX5_set_45 : decode cX5_set 45 = .ok (.iadd, 1) := by decide +kernel
theorem dX5_set_46 : decode cX5_set 46 = .ok (.iaload, 1) := by decide +kernel
theorem dX5_set_47 : decode cX5_set 47 = .ok (.istore_n 3, 1) := by decide +kernel
theorem dX5_set_48 : decode cX5_set 48 = .ok (.aload_n 0, 1) := by decide +kernel
theorem dX5_set_49 : decode cX5_set 49 = .ok (.getfield 7, 3) := by decide +kernel
theorem dX5_set_52 : decode cX5_set 52 = .ok (.iconst 1, 1) := by decide +kernel
theorem dX5_set_53 : decode cX5_set 53 = .ok (.iload_n 1, 1) := by decide +kernel
theorem dX5_set_54 : decode cX5_set 54 = .ok (.iadd, 1) := by decide +kernel
theorem dX5_set_55 : decode cX5_set 55 = .ok (.iload_n 2, 1) := by decide +kernel
theorem dX5_set_56 : decode cX5_set 56 = .ok (.iastore, 1) := by decide +kernel
theorem dX5_set_57 : decode cX5_set 57 = .ok (.aload_n 0, 1) := by decide +kernel
theorem dX5_set_58 : decode cX5_set 58 = .ok (.getfield 7, 3) := by decide +kernel
theorem dX5_set_61 : decode cX5_set 61 = .ok (.bipush 7, 2) := by decide +kernel
theorem dX5_set_63 : decode cX5_set 63 = .ok (.dup2, 1) := by decide +kernel
theorem dX5_set_64 : decode cX5_set 64 = .ok (.iaload, 1) := by decide +kernel
theorem dX5_set_65 : decode cX5_set 65 = .ok (.iload_n 1, 1) := by decide +kernel
theorem dX5_set_66 : decode cX5_set 66 = .ok (.iconst 2, 1) := by decide +kernel
theorem dX5_set_67 : decode cX5_set 67 = .ok (.if_icmp .ge 7, 3) := by decide +kernel
theorem dX5_set_70 : decode cX5_set 70 = .ok (.iconst 1, 1) := by decide +kernel
theorem dX5_set_71 : decode cX5_set 71 = .ok (.goto 4, 3) := by decide +kernel
theorem dX5_set_74 : decode cX5_set 74 = .ok (.iconst 0, 1) := by decide +kernel
theorem dX5_set_75 : decode cX5_set 75 = .ok (.iadd, 1) := by decide +kernel
theorem dX5_set_76 : decode cX5_set 76 = .ok (.iastore, 1) := by decide +kernel
theorem dX5_set_77 : decode cX5_set 77 = .ok (.iload_n 3, 1) := by decide +kernel
theorem dX5_set_78 : decode cX5_set 78 = .ok (.ireturn, 1) := by decide +kernel
theorem dX5_circle_0 : decode cX5_circle 0 = .ok (.aload_n 0, 1) := by decide +kernel
theorem dX5_circle_1 : decode cX5_circle 1 = .ok (.iload_n 1, 1) := by decide +kernel
theorem dX5_circle_2 : decode cX5_circle 2 = .ok (.invokestatic 114, 3) := by decide +kernel
theorem dX5_circle_5 : decode cX5_circle 5 = .ok (.ifCond .eq 10, 3) := by decide +kernel
theorem dX5_circle_8 : decode cX5_circle 8 = .ok (.iload_n 2, 1) := by decide +kernel
theorem dX5_circle_9 : decode cX5_circle 9 = .ok (.invokestatic 114, 3) := by decide +kernel
theorem dX5_circle_12 : decode cX5_circle 12 = .ok (.ifCond .ne 7, 3) := by decide +kernel
theorem dX5_circle_15 : decode cX5_circle 15 = .ok (.iconst 1, 1) := by decide +kernel
theorem dX5_circle_16 : decode cX5_circle 16 = .ok (.goto 15, 3) := by decide +kernel
theorem dX5_circle_19 : decode cX5_circle 19 = .ok (.iload_n 3, 1) := by decide +kernel
theorem dX5_circle_20 : decode cX5_circle 20 = .ok (.invokestatic 130, 3) := by decide +kernel
theorem dX5_circle_23 : decode cX5_circle 23 = .ok (.ifCond .ne 7, 3) := by decide +kernel
theorem dX5_circle_26 : decode cX5_circle 26 = .ok (.iconst 2, 1) := by decide +kernel
theorem dX5_circle_27 : decode cX5_circle 27 = .ok (.goto 4, 3) := by decide +kernel
theorem dX5_circle_30 : decode cX5_circle 30 = .ok (.iconst 0, 1) := by decide +kernel
theorem dX5_circle_31 : decode cX5_circle 31 = .ok (.invokevirtual 118, 3) := by decide +kernel
theorem dX5_circle_34 : decode cX5_circle 34 = .ok (.ifCond .ne 5, 3) := by decide +kernel
theorem dX5_circle_37 : decode cX5_circle 37 = .ok (.iconst 0, 1) := by decide +kernel
theorem dX5_circle_38 : decode cX5_circle 38 = .ok (.ireturn, 1) := by decide +kernel
theorem dX5_circle_39 : decode cX5_circle 39 = .ok (.aload_n 0, 1) := by decide +kernel
theorem dX5_circle_40 : decode cX5_circle 40 = .ok (.invokevirtual 121, 3) := by decide +kernel
theorem dX5_circle_43 : decode cX5_circle 43 = .ok (.aload_n 0, 1) := by decide +kernel
theorem dX5_circle_44 : decode cX5_circle 44 = .ok (.bipush 10, 2) := by decide +kernel
theorem dX5_circle_46 : decode cX5_circle 46 = .ok (.iload_n 1, 1) := by decide +kernel
theorem dX5_circle_47 : decode cX5_circle 47 = .ok (.imul, 1) := by decide +kernel
theorem dX5_circle_48 : decode cX5_circle 48 = .ok (.iload_n 2, 1) := by decide +kernel
theorem dX5_circle_49 : decode cX5_circle 49 = .ok (.iadd, 1) := by decide +kernel
theorem dX5_circle_50 : decode cX5_circle 50 = .ok (.iload_n 3, 1) := by decide +kernel
theorem dX5_circle_51 : decode cX5_circle 51 = .ok (.invokevirtual 133, 3) := by decide +kernel
theorem dX5_circle_54 : decode cX5_circle 54 = .ok (.ireturn, 1) := by decide +kernel
theorem dX5_forget_0 : decode cX5_forget 0 = .ok (.aload_n 0, 1) := by decide +kernel
theorem dX5_forget_1 : decode cX5_forget 1 = .ok (.aload_n 0, 1) := by decide +kernel
theorem dX5_forget_2 : decode cX5_forget 2 = .ok (.iload_n 1, 1) := by decide +kernel
theorem dX5_forget_3 : decode cX5_forget 3 = .ok (.invokevirtual 136, 3) := by decide +kernel
theorem dX5_forget_6 : decode cX5_forget 6 = .ok (.ifCond .eq 7, 3) := by decide +kernel
theorem dX5_forget_9 : decode cX5_forget 9 = .ok (.iconst 0, 1) := by decide +kernel
theorem dX5_forget_10 : decode cX5_forget 10 = .ok (.goto 4, 3) := by decide +kernel
theorem dX5_forget_13 : decode cX5_forget 13 = .ok (.iconst 1, 1) := by decide +kernel
theorem dX5_forget_14 : decode cX5_forget 14 = .ok (.invokevirtual 118, 3) := by decide +kernel
theorem dX5_forget_17 : decode cX5_forget 17 = .ok (.ifCond .ne 5, 3) := by decide +kernel
theorem dX5_forget_20 : decode cX5_forget 20 = .ok (.iconst 0, 1) := by decide +kernel
theorem dX5_forget_21 : decode cX5_forget 21 = .ok (.ireturn, 1) := by decide +kernel
theorem dX5_forget_22 : decode cX5_forget 22 = .ok (.aload_n 0, 1) := by decide +kernel
theorem dX5_forget_23 : decode cX5_forget 23 = .ok (.invokevirtual 121, 3) := by decide +kernel
theorem dX5_forget_26 : decode cX5_forget 26 = .ok (.aload_n 0, 1) := by decide +kernel
theorem dX5_forget_27 : decode cX5_forget 27 = .ok (.getfield 7, 3) := by decide +kernel
theorem dX5_forget_30 : decode cX5_forget 30 = .ok (.bipush 6, 2) := by decide +kernel
theorem dX5_forget_32 : decode cX5_forget 32 = .ok (.dup2, 1) := by decide +kernel
theorem dX5_forget_33 : decode cX5_forget 33 = .ok (.iaload, 1) := by decide +kernel
theorem dX5_forget_34 : decode cX5_forget 34 = .ok (.iconst 1, 1) := by decide +kernel
theorem dX5_forget_35 : decode cX5_forget 35 = .ok (.iadd, 1) := by decide +kernel
theorem dX5_forget_36 : decode cX5_forget 36 = .ok (.iastore, 1) := by decide +kernel
theorem dX5_forget_37 : decode cX5_forget 37 = .ok (.aload_n 0, 1) := by decide +kernel
theorem dX5_forget_38 : decode cX5_forget 38 = .ok (.getfield 7, 3) := by decide +kernel
theorem dX5_forget_41 : decode cX5_forget 41 = .ok (.bipush 7, 2) := by decide +kernel
theorem dX5_forget_43 : decode cX5_forget 43 = .ok (.dup2, 1) := by decide +kernel
theorem dX5_forget_44 : decode cX5_forget 44 = .ok (.iaload, 1) := by decide +kernel
theorem dX5_forget_45 : decode cX5_forget 45 = .ok (.iconst 1, 1) := by decide +kernel
theorem dX5_forget_46 : decode cX5_forget 46 = .ok (.iadd, 1) := by decide +kernel
theorem dX5_forget_47 : decode cX5_forget 47 = .ok (.iastore, 1) := by decide +kernel
theorem dX5_forget_48 : decode cX5_forget 48 = .ok (.aload_n 0, 1) := by decide +kernel
theorem dX5_forget_49 : decode cX5_forget 49 = .ok (.iload_n 1, 1) := by decide +kernel
theorem dX5_forget_50 : decode cX5_forget 50 = .ok (.invokevirtual 139, 3) := by decide +kernel
theorem dX5_forget_53 : decode cX5_forget 53 = .ok (.ireturn, 1) := by decide +kernel
theorem dX5_append_0 : decode cX5_append 0 = .ok (.aload_n 0, 1) := by decide +kernel
theorem dX5_append_1 : decode cX5_append 1 = .ok (.iload_n 1, 1) := by decide +kernel
theorem dX5_append_2 : decode cX5_append 2 = .ok (.bipush 33, 2) := by decide +kernel
theorem dX5_append_4 : decode cX5_append 4 = .ok (.bipush 126, 2) := by decide +kernel
theorem dX5_append_6 : decode cX5_append 6 = .ok (.invokestatic 58, 3) := by decide +kernel
theorem dX5_append_9 : decode cX5_append 9 = .ok (.ifCond .ne 7, 3) := by decide +kernel
theorem dX5_append_12 : decode cX5_append 12 = .ok (.iconst 1, 1) := by decide +kernel
theorem dX5_append_13 : decode cX5_append 13 = .ok (.goto 17, 3) := by decide +kernel
theorem dX5_append_16 : decode cX5_append 16 = .ok (.aload_n 0, 1) := by decide +kernel
theorem dX5_append_17 : decode cX5_append 17 = .ok (.getfield 142, 3) := by decide +kernel
theorem dX5_append_20 : decode cX5_append 20 = .ok (.bipush 60, 2) := by decide +kernel
theorem dX5_append_22 : decode cX5_append 22 = .ok (.if_icmp .ne 7, 3) := by decide +kernel
theorem dX5_append_25 : decode cX5_append 25 = .ok (.iconst 2, 1) := by decide +kernel
theorem dX5_append_26 : decode cX5_append 26 = .ok (.goto 4, 3) := by decide +kernel
theorem dX5_append_29 : decode cX5_append 29 = .ok (.iconst 0, 1) := by decide +kernel
theorem dX5_append_30 : decode cX5_append 30 = .ok (.invokevirtual 118, 3) := by decide +kernel
theorem dX5_append_33 : decode cX5_append 33 = .ok (.ifCond .ne 5, 3) := by decide +kernel
theorem dX5_append_36 : decode cX5_append 36 = .ok (.iconst 0, 1) := by decide +kernel
theorem dX5_append_37 : decode cX5_append 37 = .ok (.ireturn, 1) := by decide +kernel
theorem dX5_append_38 : decode cX5_append 38 = .ok (.aload_n 0, 1) := by decide +kernel
theorem dX5_append_39 : decode cX5_append 39 = .ok (.getfield 26, 3) := by decide +kernel
theorem dX5_append_42 : decode cX5_append 42 = .ok (.aload_n 0, 1) := by decide +kernel
theorem dX5_append_43 : decode cX5_append 43 = .ok (.getfield 142, 3) := by decide +kernel
theorem dX5_append_46 : decode cX5_append 46 = .ok (.iload_n 1, 1) := by decide +kernel
theorem dX5_append_47 : decode cX5_append 47 = .ok (.iastore, 1) := by decide +kernel
theorem dX5_append_48 : decode cX5_append 48 = .ok (.aload_n 0, 1) := by decide +kernel
theorem dX5_append_49 : decode cX5_append 49 = .ok (.dup, 1) := by decide +kernel
theorem dX5_append_50 : decode cX5_append 50 = .ok (.getfield 142, 3) := by decide +kernel
theorem dX5_append_53 : decode cX5_append 53 = .ok (.iconst 1, 1) := by decide +kernel
theorem dX5_append_54 : decode cX5_append 54 = .ok (.iadd, 1) := by decide +kernel
theorem dX5_append_55 : decode cX5_append 55 = .ok (.putfield 142, 3) := by decide +kernel
theorem dX5_append_58 : decode cX5_append 58 = .ok (.aload_n 0, 1) := by decide +kernel
theorem dX5_append_59 : decode cX5_append 59 = .ok (.getfield 142, 3) := by decide +kernel
theorem dX5_append_62 : decode cX5_append 62 = .ok (.ireturn, 1) := by decide +kernel
theorem dX5_clearBuffer_0 : decode cX5_clearBuffer 0 = .ok (.aload_n 0, 1) := by decide +kernel
theorem dX5_clearBuffer_1 : decode cX5_clearBuffer 1 = .ok (.iconst 0, 1) := by decide +kernel
theorem dX5_clearBuffer_2 : decode cX5_clearBuffer 2 = .ok (.putfield 54, 3) := by decide +kernel
theorem dX5_clearBuffer_5 : decode cX5_clearBuffer 5 = .ok (.aload_n 0, 1) := by decide +kernel
theorem dX5_clearBuffer_6 : decode cX5_clearBuffer 6 = .ok (.getfield 142, 3) := by decide +kernel
theorem dX5_clearBuffer_9 : decode cX5_clearBuffer 9 = .ok (.istore_n 1, 1) := by decide +kernel
theorem dX5_clearBuffer_10 : decode cX5_clearBuffer 10 = .ok (.aload_n 0, 1) := by decide +kernel
theorem dX5_clearBuffer_11 : decode cX5_clearBuffer 11 = .ok (.iconst 0, 1) := by decide +kernel
theorem dX5_clearBuffer_12 : decode cX5_clearBuffer 12 = .ok (.putfield 142, 3) := by decide +kernel
theorem dX5_clearBuffer_15 : decode cX5_clearBuffer 15 = .ok (.iload_n 1, 1) := by decide +kernel
theorem dX5_clearBuffer_16 : decode cX5_clearBuffer 16 = .ok (.ireturn, 1) := by decide +kernel
theorem dX5_isWritten_0 : decode cX5_isWritten 0 = .ok (.iload_n 1, 1) := by decide +kernel
theorem dX5_isWritten_1 : decode cX5_isWritten 1 = .ok (.ifCond .lt 31, 3) := by decide +kernel
theorem dX5_isWritten_4 : decode cX5_isWritten 4 = .ok (.iload_n 1, 1) := by decide +kernel
theorem dX5_isWritten_5 : decode cX5_isWritten 5 = .ok (.aload_n 0, 1) := by decide +kernel
theorem dX5_isWritten_6 : decode cX5_isWritten 6 = .ok (.getfield 142, 3) := by decide +kernel
theorem dX5_isWritten_9 : decode cX5_isWritten 9 = .ok (.if_icmp .ge 23, 3) := by decide +kernel
theorem dX5_isWritten_12 : decode cX5_isWritten 12 = .ok (.aload_n 0, 1) := by decide +kernel
theorem dX5_isWritten_13 : decode cX5_isWritten 13 = .ok (.getfield 26, 3) := by decide +kernel
theorem dX5_isWritten_16 : decode cX5_isWritten 16 = .ok (.iload_n 1, 1) := by decide +kernel
theorem dX5_isWritten_17 : decode cX5_isWritten 17 = .ok (.iaload, 1) := by decide +kernel
theorem dX5_isWritten_18 : decode cX5_isWritten 18 = .ok (.bipush 97, 2) := by decide +kernel
theorem dX5_isWritten_20 : decode cX5_isWritten 20 = .ok (.bipush 106, 2) := by decide +kernel
theorem dX5_isWritten_22 : decode cX5_isWritten 22 = .ok (.invokestatic 58, 3) := by decide +kernel
theorem dX5_isWritten_25 : decode cX5_isWritten 25 = .ok (.ifCond .eq 7, 3) := by decide +kernel
theorem dX5_isWritten_28 : decode cX5_isWritten 28 = .ok (.iconst 1, 1) := by decide +kernel
theorem dX5_isWritten_29 : decode cX5_isWritten 29 = .ok (.goto 4, 3) := by decide +kernel
theorem dX5_isWritten_32 : decode cX5_isWritten 32 = .ok (.iconst 0, 1) := by decide +kernel
theorem dX5_isWritten_33 : decode cX5_isWritten 33 = .ok (.ireturn, 1) := by decide +kernel
theorem dX5_errorPlace_0 : decode cX5_errorPlace 0 = .ok (.iconst 0, 1) := by decide +kernel
theorem dX5_errorPlace_1 : decode cX5_errorPlace 1 = .ok (.istore_n 1, 1) := by decide +kernel
theorem dX5_errorPlace_2 : decode cX5_errorPlace 2 = .ok (.iload_n 1, 1) := by decide +kernel
theorem dX5_errorPlace_3 : decode cX5_errorPlace 3 = .ok (.aload_n 0, 1) := by decide +kernel
theorem dX5_errorPlace_4 : decode cX5_errorPlace 4 = .ok (.getfield 142, 3) := by decide +kernel
theorem dX5_errorPlace_7 : decode cX5_errorPlace 7 = .ok (.if_icmp .ge 38, 3) := by decide +kernel
theorem dX5_errorPlace_10 : decode cX5_errorPlace 10 = .ok (.aload_n 0, 1) := by decide +kernel
theorem dX5_errorPlace_11 : decode cX5_errorPlace 11 = .ok (.iload_n 1, 1) := by decide +kernel
theorem dX5_errorPlace_12 : decode cX5_errorPlace 12 = .ok (.invokevirtual 145, 3) := by decide +kernel
theorem dX5_errorPlace_15 : decode cX5_errorPlace 15 = .ok (.ifCond .ne 24, 3) := by decide +kernel
theorem dX5_errorPlace_18 : decode cX5_errorPlace 18 = .ok (.aload_n 0, 1) := by decide +kernel
theorem dX5_errorPlace_19 : decode cX5_errorPlace 19 = .ok (.getfield 26, 3) := by decide +kernel
theorem dX5_errorPlace_22 : decode cX5_errorPlace 22 = .ok (.iload_n 1, 1) := by decide +kernel
theorem dX5_errorPlace_23 : decode cX5_errorPlace 23 = .ok (.iaload, 1) := by decide +kernel
theorem dX5_errorPlace_24 : decode cX5_errorPlace 24 = .ok (.bipush 46, 2) := by decide +kernel
theorem dX5_errorPlace_26 : decode cX5_errorPlace 26 = .ok (.if_icmp .ne 19, 3) := by decide +kernel
theorem dX5_errorPlace_29 : decode cX5_errorPlace 29 = .ok (.aload_n 0, 1) := by decide +kernel
theorem dX5_errorPlace_30 : decode cX5_errorPlace 30 = .ok (.iload_n 1, 1) := by decide +kernel
theorem dX5_errorPlace_31 : decode cX5_errorPlace 31 = .ok (.iconst 1, 1) := by decide +kernel
theorem dX5_errorPlace_32 : decode cX5_errorPlace 32 = .ok (.isub, 1) := by decide +kernel
theorem dX5_errorPlace_33 : decode cX5_errorPlace 33 = .ok (.invokevirtual 145, 3) := by decide +kernel
theorem dX5_errorPlace_36 : decode cX5_errorPlace 36 = .ok (.ifCond .eq 9, 3) := by decide +kernel
theorem dX5_errorPlace_39 : decode cX5_errorPlace 39 = .ok (.iinc 1 1, 3) := by decide +kernel
theorem dX5_errorPlace_42 : decode cX5_errorPlace 42 = .ok (.goto (-40), 3) := by decide +kernel
theorem dX5_errorPlace_45 : decode cX5_errorPlace 45 = .ok (.iload_n 1, 1) := by decide +kernel
theorem dX5_errorPlace_46 : decode cX5_errorPlace 46 = .ok (.ireturn, 1) := by decide +kernel
theorem dX5_firstError_0 : decode cX5_firstError 0 = .ok (.aload_n 0, 1) := by decide +kernel
theorem dX5_firstError_1 : decode cX5_firstError 1 = .ok (.iconst 0, 1) := by decide +kernel
theorem dX5_firstError_2 : decode cX5_firstError 2 = .ok (.putfield 54, 3) := by decide +kernel
theorem dX5_firstError_5 : decode cX5_firstError 5 = .ok (.aload_n 0, 1) := by decide +kernel
theorem dX5_firstError_6 : decode cX5_firstError 6 = .ok (.invokevirtual 148, 3) := by decide +kernel
theorem dX5_firstError_9 : decode cX5_firstError 9 = .ok (.ireturn, 1) := by decide +kernel
theorem dX5_isText_0 : decode cX5_isText 0 = .ok (.aload_n 0, 1) := by decide +kernel
theorem dX5_isText_1 : decode cX5_isText 1 = .ok (.invokevirtual 148, 3) := by decide +kernel
theorem dX5_isText_4 : decode cX5_isText 4 = .ok (.aload_n 0, 1) := by decide +kernel
theorem dX5_isText_5 : decode cX5_isText 5 = .ok (.getfield 142, 3) := by decide +kernel
theorem dX5_isText_8 : decode cX5_isText 8 = .ok (.if_icmp .ne 20, 3) := by decide +kernel
theorem dX5_isText_11 : decode cX5_isText 11 = .ok (.aload_n 0, 1) := by decide +kernel
theorem dX5_isText_12 : decode cX5_isText 12 = .ok (.aload_n 0, 1) := by decide +kernel
theorem dX5_isText_13 : decode cX5_isText 13 = .ok (.getfield 142, 3) := by decide +kernel
theorem dX5_isText_16 : decode cX5_isText 16 = .ok (.iconst 1, 1) := by decide +kernel
theorem dX5_isText_17 : decode cX5_isText 17 = .ok (.isub, 1) := by decide +kernel
theorem dX5_isText_18 : decode cX5_isText 18 = .ok (.invokevirtual 145, 3) := by decide +kernel
theorem dX5_isText_21 : decode cX5_isText 21 = .ok (.ifCond .eq 7, 3) := by decide +kernel
theorem dX5_isText_24 : decode cX5_isText 24 = .ok (.iconst 1, 1) := by decide +kernel
theorem dX5_isText_25 : decode cX5_isText 25 = .ok (.goto 4, 3) := by decide +kernel
theorem dX5_isText_28 : decode cX5_isText 28 = .ok (.iconst 0, 1) := by decide +kernel
theorem dX5_isText_29 : decode cX5_isText 29 = .ok (.ireturn, 1) := by decide +kernel
theorem dX5_pairAt_0 : decode cX5_pairAt 0 = .ok (.bipush 10, 2) := by decide +kernel
theorem dX5_pairAt_2 : decode cX5_pairAt 2 = .ok (.aload_n 0, 1) := by decide +kernel
theorem dX5_pairAt_3 : decode cX5_pairAt 3 = .ok (.getfield 26, 3) := by decide +kernel
theorem dX5_pairAt_6 : decode cX5_pairAt 6 = .ok (.iload_n 1, 1) := by decide +kernel
theorem dX5_pairAt_7 : decode cX5_pairAt 7 = .ok (.iaload, 1) := by decide +kernel
theorem dX5_pairAt_8 : decode cX5_pairAt 8 = .ok (.bipush 97, 2) := by decide +kernel
theorem dX5_pairAt_10 : decode cX5_pairAt 10 = .ok (.isub, 1) := by decide +kernel
theorem dX5_pairAt_11 : decode cX5_pairAt 11 = .ok (.imul, 1) := by decide +kernel
theorem dX5_pairAt_12 : decode cX5_pairAt 12 = .ok (.aload_n 0, 1) := by decide +kernel
theorem dX5_pairAt_13 : decode cX5_pairAt 13 = .ok (.getfield 26, 3) := by decide +kernel
theorem dX5_pairAt_16 : decode cX5_pairAt 16 = .ok (.iload_n 1, 1) := by decide +kernel
theorem dX5_pairAt_17 : decode cX5_pairAt 17 = .ok (.iconst 1, 1) := by decide +kernel
theorem dX5_pairAt_18 : decode cX5_pairAt 18 = .ok (.iadd, 1) := by decide +kernel
theorem dX5_pairAt_19 : decode cX5_pairAt 19 = .ok (.iaload, 1) := by decide +kernel
theorem dX5_pairAt_20 : decode cX5_pairAt 20 = .ok (.iadd, 1) := by decide +kernel
theorem dX5_pairAt_21 : decode cX5_pairAt 21 = .ok (.bipush 97, 2) := by decide +kernel
theorem dX5_pairAt_23 : decode cX5_pairAt 23 = .ok (.isub, 1) := by decide +kernel
theorem dX5_pairAt_24 : decode cX5_pairAt 24 = .ok (.ireturn, 1) := by decide +kernel
theorem dX5_circleAt_0 : decode cX5_circleAt 0 = .ok (.iload_n 1, 1) := by decide +kernel
theorem dX5_circleAt_1 : decode cX5_circleAt 1 = .ok (.bipush 60, 2) := by decide +kernel
theorem dX5_circleAt_3 : decode cX5_circleAt 3 = .ok (.if_icmp .ge 25, 3) := by decide +kernel
theorem dX5_circleAt_6 : decode cX5_circleAt 6 = .ok (.aload_n 0, 1) := by decide +kernel
theorem dX5_circleAt_7 : decode cX5_circleAt 7 = .ok (.iload_n 1, 1) := by decide +kernel
theorem dX5_circleAt_8 : decode cX5_circleAt 8 = .ok (.invokevirtual 145, 3) := by decide +kernel
theorem dX5_circleAt_11 : decode cX5_circleAt 11 = .ok (.ifCond .eq 17, 3) := by decide +kernel
theorem dX5_circleAt_14 : decode cX5_circleAt 14 = .ok (.aload_n 0, 1) := by decide +kernel
theorem dX5_circleAt_15 : decode cX5_circleAt 15 = .ok (.iload_n 1, 1) := by decide +kernel
theorem dX5_circleAt_16 : decode cX5_circleAt 16 = .ok (.iconst 1, 1) := by decide +kernel
theorem dX5_circleAt_17 : decode cX5_circleAt 17 = .ok (.iadd, 1) := by decide +kernel
theorem dX5_circleAt_18 : decode cX5_circleAt 18 = .ok (.invokevirtual 145, 3) := by decide +kernel
theorem dX5_circleAt_21 : decode cX5_circleAt 21 = .ok (.ifCond .eq 7, 3) := by decide +kernel
theorem dX5_circleAt_24 : decode cX5_circleAt 24 = .ok (.iconst 1, 1) := by decide +kernel
theorem dX5_circleAt_25 : decode cX5_circleAt 25 = .ok (.goto 4, 3) := by decide +kernel
theorem dX5_circleAt_28 : decode cX5_circleAt 28 = .ok (.iconst 0, 1) := by decide +kernel
theorem dX5_circleAt_29 : decode cX5_circleAt 29 = .ok (.istore_n 3, 1) := by decide +kernel
theorem dX5_circleAt_30 : decode cX5_circleAt 30 = .ok (.aload_n 0, 1) := by decide +kernel
theorem dX5_circleAt_31 : decode cX5_circleAt 31 = .ok (.aload_n 0, 1) := by decide +kernel
theorem dX5_circleAt_32 : decode cX5_circleAt 32 = .ok (.invokevirtual 151, 3) := by decide +kernel
theorem dX5_circleAt_35 : decode cX5_circleAt 35 = .ok (.ifCond .ne 7, 3) := by decide +kernel
theorem dX5_circleAt_38 : decode cX5_circleAt 38 = .ok (.iconst 1, 1) := by decide +kernel
theorem dX5_circleAt_39 : decode cX5_circleAt 39 = .ok (.goto 23, 3) := by decide +kernel
theorem dX5_circleAt_42 : decode cX5_circleAt 42 = .ok (.iload_n 3, 1) := by decide +kernel
theorem dX5_circleAt_43 : decode cX5_circleAt 43 = .ok (.ifCond .ne 7, 3) := by decide +kernel
theorem dX5_circleAt_46 : decode cX5_circleAt 46 = .ok (.iconst 2, 1) := by decide +kernel
theorem dX5_circleAt_47 : decode cX5_circleAt 47 = .ok (.goto 15, 3) := by decide +kernel
theorem dX5_circleAt_50 : decode cX5_circleAt 50 = .ok (.iload_n 2, 1) := by decide +kernel
theorem dX5_circleAt_51 : decode cX5_circleAt 51 = .ok (.invokestatic 130, 3) := by decide +kernel
theorem dX5_circleAt_54 : decode cX5_circleAt 54 = .ok (.ifCond .ne 7, 3) := by decide +kernel
theorem dX5_circleAt_57 : decode cX5_circleAt 57 = .ok (.iconst 3, 1) := by decide +kernel
theorem dX5_circleAt_58 : decode cX5_circleAt 58 = .ok (.goto 4, 3) := by decide +kernel
theorem dX5_circleAt_61 : decode cX5_circleAt 61 = .ok (.iconst 0, 1) := by decide +kernel
theorem dX5_circleAt_62 : decode cX5_circleAt 62 = .ok (.invokevirtual 118, 3) := by decide +kernel
theorem dX5_circleAt_65 : decode cX5_circleAt 65 = .ok (.ifCond .ne 5, 3) := by decide +kernel
theorem dX5_circleAt_68 : decode cX5_circleAt 68 = .ok (.iconst 0, 1) := by decide +kernel
theorem dX5_circleAt_69 : decode cX5_circleAt 69 = .ok (.ireturn, 1) := by decide +kernel
theorem dX5_circleAt_70 : decode cX5_circleAt 70 = .ok (.aload_n 0, 1) := by decide +kernel
theorem dX5_circleAt_71 : decode cX5_circleAt 71 = .ok (.invokevirtual 121, 3) := by decide +kernel
theorem dX5_circleAt_74 : decode cX5_circleAt 74 = .ok (.aload_n 0, 1) := by decide +kernel
theorem dX5_circleAt_75 : decode cX5_circleAt 75 = .ok (.aload_n 0, 1) := by decide +kernel
theorem dX5_circleAt_76 : decode cX5_circleAt 76 = .ok (.iload_n 1, 1) := by decide +kernel
theorem dX5_circleAt_77 : decode cX5_circleAt 77 = .ok (.invokevirtual 155, 3) := by decide +kernel
theorem dX5_circleAt_80 : decode cX5_circleAt 80 = .ok (.iload_n 2, 1) := by decide +kernel
theorem dX5_circleAt_81 : decode cX5_circleAt 81 = .ok (.invokevirtual 133, 3) := by decide +kernel
theorem dX5_circleAt_84 : decode cX5_circleAt 84 = .ok (.ireturn, 1) := by decide +kernel
theorem dX5_keep_0 : decode cX5_keep 0 = .ok (.aload_n 0, 1) := by decide +kernel
theorem dX5_keep_1 : decode cX5_keep 1 = .ok (.iload_n 1, 1) := by decide +kernel
theorem dX5_keep_2 : decode cX5_keep 2 = .ok (.invokestatic 158, 3) := by decide +kernel
theorem dX5_keep_5 : decode cX5_keep 5 = .ok (.ifCond .eq 7, 3) := by decide +kernel
theorem dX5_keep_8 : decode cX5_keep 8 = .ok (.iconst 0, 1) := by decide +kernel
theorem dX5_keep_9 : decode cX5_keep 9 = .ok (.goto 4, 3) := by decide +kernel
theorem dX5_keep_12 : decode cX5_keep 12 = .ok (.iconst 1, 1) := by decide +kernel
theorem dX5_keep_13 : decode cX5_keep 13 = .ok (.invokevirtual 118, 3) := by decide +kernel
theorem dX5_keep_16 : decode cX5_keep 16 = .ok (.ifCond .ne 5, 3) := by decide +kernel
theorem dX5_keep_19 : decode cX5_keep 19 = .ok (.iconst 0, 1) := by decide +kernel
theorem dX5_keep_20 : decode cX5_keep 20 = .ok (.ireturn, 1) := by decide +kernel
theorem dX5_keep_21 : decode cX5_keep 21 = .ok (.aload_n 0, 1) := by decide +kernel
theorem dX5_keep_22 : decode cX5_keep 22 = .ok (.getfield 7, 3) := by decide +kernel
theorem dX5_keep_25 : decode cX5_keep 25 = .ok (.iconst 0, 1) := by decide +kernel
theorem dX5_keep_26 : decode cX5_keep 26 = .ok (.aload_n 0, 1) := by decide +kernel
theorem dX5_keep_27 : decode cX5_keep 27 = .ok (.getfield 16, 3) := by decide +kernel
theorem dX5_keep_30 : decode cX5_keep 30 = .ok (.sipush 174, 3) := by decide +kernel
theorem dX5_keep_33 : decode cX5_keep 33 = .ok (.iload_n 1, 1) := by decide +kernel
theorem dX5_keep_34 : decode cX5_keep 34 = .ok (.imul, 1) := by decide +kernel
theorem dX5_keep_35 : decode cX5_keep 35 = .ok (.invokestatic 69, 3) := by decide +kernel
theorem dX5_keep_38 : decode cX5_keep 38 = .ok (.aload_n 0, 1) := by decide +kernel
theorem dX5_keep_39 : decode cX5_keep 39 = .ok (.getfield 19, 3) := by decide +kernel
theorem dX5_keep_42 : decode cX5_keep 42 = .ok (.iload_n 1, 1) := by decide +kernel
theorem dX5_keep_43 : decode cX5_keep 43 = .ok (.iconst 1, 1) := by decide +kernel
theorem dX5_keep_44 : decode cX5_keep 44 = .ok (.bastore, 1) := by decide +kernel
theorem dX5_keep_45 : decode cX5_keep 45 = .ok (.aload_n 0, 1) := by decide +kernel
theorem dX5_keep_46 : decode cX5_keep 46 = .ok (.getfield 7, 3) := by decide +kernel
theorem dX5_keep_49 : decode cX5_keep 49 = .ok (.iconst 0, 1) := by decide +kernel
theorem dX5_keep_50 : decode cX5_keep 50 = .ok (.iaload, 1) := by decide +kernel
theorem dX5_keep_51 : decode cX5_keep 51 = .ok (.ireturn, 1) := by decide +kernel
theorem dX5_goBack_0 : decode cX5_goBack 0 = .ok (.aload_n 0, 1) := by decide +kernel
theorem dX5_goBack_1 : decode cX5_goBack 1 = .ok (.iload_n 1, 1) := by decide +kernel
theorem dX5_goBack_2 : decode cX5_goBack 2 = .ok (.invokestatic 158, 3) := by decide +kernel
theorem dX5_goBack_5 : decode cX5_goBack 5 = .ok (.ifCond .ne 7, 3) := by decide +kernel
theorem dX5_goBack_8 : decode cX5_goBack 8 = .ok (.iconst 1, 1) := by decide +kernel
theorem dX5_goBack_9 : decode cX5_goBack 9 = .ok (.goto 17, 3) := by decide +kernel
theorem dX5_goBack_12 : decode cX5_goBack 12 = .ok (.aload_n 0, 1) := by decide +kernel
theorem dX5_goBack_13 : decode cX5_goBack 13 = .ok (.getfield 19, 3) := by decide +kernel
theorem dX5_goBack_16 : decode cX5_goBack 16 = .ok (.iload_n 1, 1) := by decide +kernel
theorem dX5_goBack_17 : decode cX5_goBack 17 = .ok (.baload, 1) := by decide +kernel
theorem dX5_goBack_18 : decode cX5_goBack 18 = .ok (.ifCond .eq 7, 3) := by decide +kernel
theorem dX5_goBack_21 : decode cX5_goBack 21 = .ok (.iconst 0, 1) := by decide +kernel
theorem dX5_goBack_22 : decode cX5_goBack 22 = .ok (.goto 4, 3) := by decide +kernel
theorem dX5_goBack_25 : decode cX5_goBack 25 = .ok (.iconst 2, 1) := by decide +kernel
theorem dX5_goBack_26 : decode cX5_goBack 26 = .ok (.invokevirtual 118, 3) := by decide +kernel
theorem dX5_goBack_29 : decode cX5_goBack 29 = .ok (.ifCond .ne 5, 3) := by decide +kernel
theorem dX5_goBack_32 : decode cX5_goBack 32 = .ok (.iconst 0, 1) := by decide +kernel
theorem dX5_goBack_33 : decode cX5_goBack 33 = .ok (.ireturn, 1) := by decide +kernel
theorem dX5_goBack_34 : decode cX5_goBack 34 = .ok (.aload_n 0, 1) := by decide +kernel
theorem dX5_goBack_35 : decode cX5_goBack 35 = .ok (.invokevirtual 121, 3) := by decide +kernel
theorem dX5_goBack_38 : decode cX5_goBack 38 = .ok (.aload_n 0, 1) := by decide +kernel
theorem dX5_goBack_39 : decode cX5_goBack 39 = .ok (.getfield 16, 3) := by decide +kernel
theorem dX5_goBack_42 : decode cX5_goBack 42 = .ok (.sipush 174, 3) := by decide +kernel
theorem dX5_goBack_45 : decode cX5_goBack 45 = .ok (.iload_n 1, 1) := by decide +kernel
theorem dX5_goBack_46 : decode cX5_goBack 46 = .ok (.imul, 1) := by decide +kernel
theorem dX5_goBack_47 : decode cX5_goBack 47 = .ok (.aload_n 0, 1) := by decide +kernel
theorem dX5_goBack_48 : decode cX5_goBack 48 = .ok (.getfield 7, 3) := by decide +kernel
theorem dX5_goBack_51 : decode cX5_goBack 51 = .ok (.iconst 0, 1) := by decide +kernel
theorem dX5_goBack_52 : decode cX5_goBack 52 = .ok (.invokestatic 69, 3) := by decide +kernel
theorem dX5_goBack_55 : decode cX5_goBack 55 = .ok (.aload_n 0, 1) := by decide +kernel
theorem dX5_goBack_56 : decode cX5_goBack 56 = .ok (.getfield 7, 3) := by decide +kernel
theorem dX5_goBack_59 : decode cX5_goBack 59 = .ok (.iconst 0, 1) := by decide +kernel
theorem dX5_goBack_60 : decode cX5_goBack 60 = .ok (.iaload, 1) := by decide +kernel
theorem dX5_goBack_61 : decode cX5_goBack 61 = .ok (.ireturn, 1) := by decide +kernel
theorem dX5_undo_0 : decode cX5_undo 0 = .ok (.aload_n 0, 1) := by decide +kernel
theorem dX5_undo_1 : decode cX5_undo 1 = .ok (.aload_n 0, 1) := by decide +kernel
theorem dX5_undo_2 : decode cX5_undo 2 = .ok (.getfield 66, 3) := by decide +kernel
theorem dX5_undo_5 : decode cX5_undo 5 = .ok (.ifCond .le 7, 3) := by decide +kernel
theorem dX5_undo_8 : decode cX5_undo 8 = .ok (.iconst 0, 1) := by decide +kernel
theorem dX5_undo_9 : decode cX5_undo 9 = .ok (.goto 4, 3) := by decide +kernel
theorem dX5_undo_12 : decode cX5_undo 12 = .ok (.iconst 1, 1) := by decide +kernel
theorem dX5_undo_13 : decode cX5_undo 13 = .ok (.invokevirtual 118, 3) := by decide +kernel
theorem dX5_undo_16 : decode cX5_undo 16 = .ok (.ifCond .ne 5, 3) := by decide +kernel
theorem dX5_undo_19 : decode cX5_undo 19 = .ok (.iconst 0, 1) := by decide +kernel
theorem dX5_undo_20 : decode cX5_undo 20 = .ok (.ireturn, 1) := by decide +kernel
theorem dX5_undo_21 : decode cX5_undo 21 = .ok (.aload_n 0, 1) := by decide +kernel
theorem dX5_undo_22 : decode cX5_undo 22 = .ok (.dup, 1) := by decide +kernel
theorem dX5_undo_23 : decode cX5_undo 23 = .ok (.getfield 66, 3) := by decide +kernel
theorem dX5_undo_26 : decode cX5_undo 26 = .ok (.iconst 1, 1) := by decide +kernel
theorem dX5_undo_27 : decode cX5_undo 27 = .ok (.isub, 1) := by decide +kernel
theorem dX5_undo_28 : decode cX5_undo 28 = .ok (.putfield 66, 3) := by decide +kernel
theorem dX5_undo_31 : decode cX5_undo 31 = .ok (.aload_n 0, 1) := by decide +kernel
theorem dX5_undo_32 : decode cX5_undo 32 = .ok (.getfield 13, 3) := by decide +kernel
theorem dX5_undo_35 : decode cX5_undo 35 = .ok (.sipush 174, 3) := by decide +kernel
theorem dX5_undo_38 : decode cX5_undo 38 = .ok (.aload_n 0, 1) := by decide +kernel
theorem dX5_undo_39 : decode cX5_undo 39 = .ok (.getfield 66, 3) := by decide +kernel
theorem dX5_undo_42 : decode cX5_undo 42 = .ok (.imul, 1) := by decide +kernel
theorem dX5_undo_43 : decode cX5_undo 43 = .ok (.aload_n 0, 1) := by decide +kernel
theorem dX5_undo_44 : decode cX5_undo 44 = .ok (.getfield 7, 3) := by decide +kernel
theorem dX5_undo_47 : decode cX5_undo 47 = .ok (.iconst 0, 1) := by decide +kernel
theorem dX5_undo_48 : decode cX5_undo 48 = .ok (.invokestatic 69, 3) := by decide +kernel
theorem dX5_undo_51 : decode cX5_undo 51 = .ok (.aload_n 0, 1) := by decide +kernel
theorem dX5_undo_52 : decode cX5_undo 52 = .ok (.getfield 66, 3) := by decide +kernel
theorem dX5_undo_55 : decode cX5_undo 55 = .ok (.ireturn, 1) := by decide +kernel
theorem dX5_lessonsWith_0 : decode cX5_lessonsWith 0 = .ok (.iconst 0, 1) := by decide +kernel
theorem dX5_lessonsWith_1 : decode cX5_lessonsWith 1 = .ok (.istore_n 2, 1) := by decide +kernel
theorem dX5_lessonsWith_2 : decode cX5_lessonsWith 2 = .ok (.iconst 0, 1) := by decide +kernel
theorem dX5_lessonsWith_3 : decode cX5_lessonsWith 3 = .ok (.istore_n 3, 1) := by decide +kernel
theorem dX5_lessonsWith_4 : decode cX5_lessonsWith 4 = .ok (.iload_n 3, 1) := by decide +kernel
theorem dX5_lessonsWith_5 : decode cX5_lessonsWith 5 = .ok (.aload_n 0, 1) := by decide +kernel
theorem dX5_lessonsWith_6 : decode cX5_lessonsWith 6 = .ok (.getfield 7, 3) := by decide +kernel
theorem dX5_lessonsWith_9 : decode cX5_lessonsWith 9 = .ok (.iconst 0, 1) := by decide +kernel
theorem dX5_lessonsWith_10 : decode cX5_lessonsWith 10 = .ok (.iaload, 1) := by decide +kernel
theorem dX5_lessonsWith_11 : decode cX5_lessonsWith 11 = .ok (.if_icmp .ge 43, 3) := by decide +kernel
theorem dX5_lessonsWith_14 : decode cX5_lessonsWith 14 = .ok (.iload_n 2, 1) := by decide +kernel
theorem dX5_lessonsWith_15 : decode cX5_lessonsWith 15 = .ok (.aload_n 0, 1) := by decide +kernel
theorem dX5_lessonsWith_16 : decode cX5_lessonsWith 16 = .ok (.iload_n 3, 1) := by decide +kernel
theorem dX5_lessonsWith_17 : decode cX5_lessonsWith 17 = .ok (.iconst 0, 1) := by decide +kernel
theorem dX5_lessonsWith_18 : decode cX5_lessonsWith 18 = .ok (.invokevirtual 80, 3) := by decide +kernel
theorem dX5_lessonsWith_21 : decode cX5_lessonsWith 21 = .ok (.iload_n 1, 1) := by decide +kernel
theorem dX5_lessonsWith_22 : decode cX5_lessonsWith 22 = .ok (.if_icmp .ne 7, 3) := by decide +kernel
theorem dX5_lessonsWith_25 : decode cX5_lessonsWith 25 = .ok (.iconst 1, 1) := by decide +kernel
theorem dX5_lessonsWith_26 : decode cX5_lessonsWith 26 = .ok (.goto 4, 3) := by decide +kernel
theorem dX5_lessonsWith_29 : decode cX5_lessonsWith 29 = .ok (.iconst 0, 1) := by decide +kernel
theorem dX5_lessonsWith_30 : decode cX5_lessonsWith 30 = .ok (.aload_n 0, 1) := by decide +kernel
theorem dX5_lessonsWith_31 : decode cX5_lessonsWith 31 = .ok (.iload_n 3, 1) := by decide +kernel
theorem dX5_lessonsWith_32 : decode cX5_lessonsWith 32 = .ok (.iconst 1, 1) := by decide +kernel
theorem dX5_lessonsWith_33 : decode cX5_lessonsWith 33 = .ok (.invokevirtual 80, 3) := by decide +kernel
theorem dX5_lessonsWith_36 : decode cX5_lessonsWith 36 = .ok (.iload_n 1, 1) := by decide +kernel
theorem dX5_lessonsWith_37 : decode cX5_lessonsWith 37 = .ok (.if_icmp .ne 7, 3) := by decide +kernel
theorem dX5_lessonsWith_40 : decode cX5_lessonsWith 40 = .ok (.iconst 1, 1) := by decide +kernel
theorem dX5_lessonsWith_41 : decode cX5_lessonsWith 41 = .ok (.goto 4, 3) := by decide +kernel
theorem dX5_lessonsWith_44 : decode cX5_lessonsWith 44 = .ok (.iconst 0, 1) := by decide +kernel
theorem dX5_lessonsWith_45 : decode cX5_lessonsWith 45 = .ok (.iadd, 1) := by decide +kernel
theorem dX5_lessonsWith_46 : decode cX5_lessonsWith 46 = .ok (.iadd, 1) := by decide +kernel
theorem dX5_lessonsWith_47 : decode cX5_lessonsWith 47 = .ok (.istore_n 2, 1) := by decide +kernel
theorem dX5_lessonsWith_48 : decode cX5_lessonsWith 48 = .ok (.iinc 3 1, 3) := by decide +kernel
theorem dX5_lessonsWith_51 : decode cX5_lessonsWith 51 = .ok (.goto (-47), 3) := by decide +kernel
theorem dX5_lessonsWith_54 : decode cX5_lessonsWith 54 = .ok (.iload_n 2, 1) := by decide +kernel
theorem dX5_lessonsWith_55 : decode cX5_lessonsWith 55 = .ok (.ireturn, 1) := by decide +kernel
theorem dX5_letterTold_0 : decode cX5_letterTold 0 = .ok (.iload_n 2, 1) := by decide +kernel
theorem dX5_letterTold_1 : decode cX5_letterTold 1 = .ok (.iconst 3, 1) := by decide +kernel
theorem dX5_letterTold_2 : decode cX5_letterTold 2 = .ok (.if_icmp .ne 11, 3) := by decide +kernel
theorem dX5_letterTold_5 : decode cX5_letterTold 5 = .ok (.aload_n 0, 1) := by decide +kernel
theorem dX5_letterTold_6 : decode cX5_letterTold 6 = .ok (.iload_n 1, 1) := by decide +kernel
theorem dX5_letterTold_7 : decode cX5_letterTold 7 = .ok (.invokevirtual 161, 3) := by decide +kernel
theorem dX5_letterTold_10 : decode cX5_letterTold 10 = .ok (.goto 9, 3) := by decide +kernel
theorem dX5_letterTold_13 : decode cX5_letterTold 13 = .ok (.aload_n 0, 1) := by decide +kernel
theorem dX5_letterTold_14 : decode cX5_letterTold 14 = .ok (.iload_n 1, 1) := by decide +kernel
theorem dX5_letterTold_15 : decode cX5_letterTold 15 = .ok (.iload_n 2, 1) := by decide +kernel
theorem dX5_letterTold_16 : decode cX5_letterTold 16 = .ok (.invokevirtual 62, 3) := by decide +kernel
theorem dX5_letterTold_19 : decode cX5_letterTold 19 = .ok (.ireturn, 1) := by decide +kernel
theorem dX5_letterOf_0 : decode cX5_letterOf 0 = .ok (.aload_n 0, 1) := by decide +kernel
theorem dX5_letterOf_1 : decode cX5_letterOf 1 = .ok (.iload_n 1, 1) := by decide +kernel
theorem dX5_letterOf_2 : decode cX5_letterOf 2 = .ok (.invokestatic 114, 3) := by decide +kernel
theorem dX5_letterOf_5 : decode cX5_letterOf 5 = .ok (.ifCond .ne 7, 3) := by decide +kernel
theorem dX5_letterOf_8 : decode cX5_letterOf 8 = .ok (.iconst 1, 1) := by decide +kernel
theorem dX5_letterOf_9 : decode cX5_letterOf 9 = .ok (.goto 17, 3) := by decide +kernel
theorem dX5_letterOf_12 : decode cX5_letterOf 12 = .ok (.iload_n 2, 1) := by decide +kernel
theorem dX5_letterOf_13 : decode cX5_letterOf 13 = .ok (.iconst 0, 1) := by decide +kernel
theorem dX5_letterOf_14 : decode cX5_letterOf 14 = .ok (.iconst 3, 1) := by decide +kernel
theorem dX5_letterOf_15 : decode cX5_letterOf 15 = .ok (.invokestatic 58, 3) := by decide +kernel
theorem dX5_letterOf_18 : decode cX5_letterOf 18 = .ok (.ifCond .ne 7, 3) := by decide +kernel
theorem dX5_letterOf_21 : decode cX5_letterOf 21 = .ok (.iconst 2, 1) := by decide +kernel
theorem dX5_letterOf_22 : decode cX5_letterOf 22 = .ok (.goto 4, 3) := by decide +kernel
theorem dX5_letterOf_25 : decode cX5_letterOf 25 = .ok (.iconst 0, 1) := by decide +kernel
theorem dX5_letterOf_26 : decode cX5_letterOf 26 = .ok (.invokevirtual 118, 3) := by decide +kernel
theorem dX5_letterOf_29 : decode cX5_letterOf 29 = .ok (.ifCond .eq 12, 3) := by decide +kernel
theorem dX5_letterOf_32 : decode cX5_letterOf 32 = .ok (.aload_n 0, 1) := by decide +kernel
theorem dX5_letterOf_33 : decode cX5_letterOf 33 = .ok (.iload_n 1, 1) := by decide +kernel
theorem dX5_letterOf_34 : decode cX5_letterOf 34 = .ok (.iload_n 2, 1) := by decide +kernel
theorem dX5_letterOf_35 : decode cX5_letterOf 35 = .ok (.invokevirtual 164, 3) := by decide +kernel
theorem dX5_letterOf_38 : decode cX5_letterOf 38 = .ok (.goto 4, 3) := by decide +kernel
theorem dX5_letterOf_41 : decode cX5_letterOf 41 = .ok (.iconst 0, 1) := by decide +kernel
theorem dX5_letterOf_42 : decode cX5_letterOf 42 = .ok (.ireturn, 1) := by decide +kernel
theorem dX5_pairTold_0 : decode cX5_pairTold 0 = .ok (.iload_n 2, 1) := by decide +kernel
theorem dX5_pairTold_1 : decode cX5_pairTold 1 = .ok (.tableswitch 57 0 3 #[31, 31, 40, 50], 31) := by decide +kernel
theorem dX5_pairTold_32 : decode cX5_pairTold 32 = .ok (.aload_n 0, 1) := by decide +kernel
theorem dX5_pairTold_33 : decode cX5_pairTold 33 = .ok (.iload_n 1, 1) := by decide +kernel
theorem dX5_pairTold_34 : decode cX5_pairTold 34 = .ok (.invokevirtual 77, 3) := by decide +kernel
theorem dX5_pairTold_37 : decode cX5_pairTold 37 = .ok (.bipush 100, 2) := by decide +kernel
theorem dX5_pairTold_39 : decode cX5_pairTold 39 = .ok (.iadd, 1) := by decide +kernel
theorem dX5_pairTold_40 : decode cX5_pairTold 40 = .ok (.ireturn, 1) := by decide +kernel
theorem dX5_pairTold_41 : decode cX5_pairTold 41 = .ok (.aload_n 0, 1) := by decide +kernel
theorem dX5_pairTold_42 : decode cX5_pairTold 42 = .ok (.getfield 32, 3) := by decide +kernel
theorem dX5_pairTold_45 : decode cX5_pairTold 45 = .ok (.iload_n 1, 1) := by decide +kernel
theorem dX5_pairTold_46 : decode cX5_pairTold 46 = .ok (.iaload, 1) := by decide +kernel
theorem dX5_pairTold_47 : decode cX5_pairTold 47 = .ok (.bipush 100, 2) := by decide +kernel
theorem dX5_pairTold_49 : decode cX5_pairTold 49 = .ok (.iadd, 1) := by decide +kernel
theorem dX5_pairTold_50 : decode cX5_pairTold 50 = .ok (.ireturn, 1) := by decide +kernel
theorem dX5_pairTold_51 : decode cX5_pairTold 51 = .ok (.aload_n 0, 1) := by decide +kernel
theorem dX5_pairTold_52 : decode cX5_pairTold 52 = .ok (.getfield 35, 3) := by decide +kernel
theorem dX5_pairTold_55 : decode cX5_pairTold 55 = .ok (.iload_n 1, 1) := by decide +kernel
theorem dX5_pairTold_56 : decode cX5_pairTold 56 = .ok (.iaload, 1) := by decide +kernel
theorem dX5_pairTold_57 : decode cX5_pairTold 57 = .ok (.ireturn, 1) := by decide +kernel
theorem dX5_pairTold_58 : decode cX5_pairTold 58 = .ok (.aload_n 0, 1) := by decide +kernel
theorem dX5_pairTold_59 : decode cX5_pairTold 59 = .ok (.getfield 41, 3) := by decide +kernel
theorem dX5_pairTold_62 : decode cX5_pairTold 62 = .ok (.iload_n 1, 1) := by decide +kernel
theorem dX5_pairTold_63 : decode cX5_pairTold 63 = .ok (.iaload, 1) := by decide +kernel
theorem dX5_pairTold_64 : decode cX5_pairTold 64 = .ok (.ireturn, 1) := by decide +kernel
theorem dX5_pairOf_0 : decode cX5_pairOf 0 = .ok (.aload_n 0, 1) := by decide +kernel
theorem dX5_pairOf_1 : decode cX5_pairOf 1 = .ok (.iload_n 1, 1) := by decide +kernel
theorem dX5_pairOf_2 : decode cX5_pairOf 2 = .ok (.invokestatic 114, 3) := by decide +kernel
theorem dX5_pairOf_5 : decode cX5_pairOf 5 = .ok (.ifCond .eq 10, 3) := by decide +kernel
theorem dX5_pairOf_8 : decode cX5_pairOf 8 = .ok (.iload_n 2, 1) := by decide +kernel
theorem dX5_pairOf_9 : decode cX5_pairOf 9 = .ok (.invokestatic 114, 3) := by decide +kernel
theorem dX5_pairOf_12 : decode cX5_pairOf 12 = .ok (.ifCond .ne 7, 3) := by decide +kernel
theorem dX5_pairOf_15 : decode cX5_pairOf 15 = .ok (.iconst 1, 1) := by decide +kernel
theorem dX5_pairOf_16 : decode cX5_pairOf 16 = .ok (.goto 17, 3) := by decide +kernel
theorem dX5_pairOf_19 : decode cX5_pairOf 19 = .ok (.iload_n 3, 1) := by decide +kernel
theorem dX5_pairOf_20 : decode cX5_pairOf 20 = .ok (.iconst 0, 1) := by decide +kernel
theorem dX5_pairOf_21 : decode cX5_pairOf 21 = .ok (.iconst 4, 1) := by decide +kernel
theorem dX5_pairOf_22 : decode cX5_pairOf 22 = .ok (.invokestatic 58, 3) := by decide +kernel
theorem dX5_pairOf_25 : decode cX5_pairOf 25 = .ok (.ifCond .ne 7, 3) := by decide +kernel
theorem dX5_pairOf_28 : decode cX5_pairOf 28 = .ok (.iconst 2, 1) := by decide +kernel
theorem dX5_pairOf_29 : decode cX5_pairOf 29 = .ok (.goto 4, 3) := by decide +kernel
theorem dX5_pairOf_32 : decode cX5_pairOf 32 = .ok (.iconst 0, 1) := by decide +kernel
theorem dX5_pairOf_33 : decode cX5_pairOf 33 = .ok (.invokevirtual 118, 3) := by decide +kernel
theorem dX5_pairOf_36 : decode cX5_pairOf 36 = .ok (.ifCond .ne 5, 3) := by decide +kernel
theorem dX5_pairOf_39 : decode cX5_pairOf 39 = .ok (.iconst 0, 1) := by decide +kernel
theorem dX5_pairOf_40 : decode cX5_pairOf 40 = .ok (.ireturn, 1) := by decide +kernel
theorem dX5_pairOf_41 : decode cX5_pairOf 41 = .ok (.aload_n 0, 1) := by decide +kernel
theorem dX5_pairOf_42 : decode cX5_pairOf 42 = .ok (.invokevirtual 98, 3) := by decide +kernel
theorem dX5_pairOf_45 : decode cX5_pairOf 45 = .ok (.aload_n 0, 1) := by decide +kernel
theorem dX5_pairOf_46 : decode cX5_pairOf 46 = .ok (.bipush 10, 2) := by decide +kernel
theorem dX5_pairOf_48 : decode cX5_pairOf 48 = .ok (.iload_n 1, 1) := by decide +kernel
theorem dX5_pairOf_49 : decode cX5_pairOf 49 = .ok (.imul, 1) := by decide +kernel
theorem dX5_pairOf_50 : decode cX5_pairOf 50 = .ok (.iload_n 2, 1) := by decide +kernel
theorem dX5_pairOf_51 : decode cX5_pairOf 51 = .ok (.iadd, 1) := by decide +kernel
theorem dX5_pairOf_52 : decode cX5_pairOf 52 = .ok (.iload_n 3, 1) := by decide +kernel
theorem dX5_pairOf_53 : decode cX5_pairOf 53 = .ok (.invokevirtual 167, 3) := by decide +kernel
theorem dX5_pairOf_56 : decode cX5_pairOf 56 = .ok (.ireturn, 1) := by decide +kernel
theorem dX5_pairsAt_0 : decode cX5_pairsAt 0 = .ok (.iconst 0, 1) := by decide +kernel
theorem dX5_pairsAt_1 : decode cX5_pairsAt 1 = .ok (.istore_n 3, 1) := by decide +kernel
theorem dX5_pairsAt_2 : decode cX5_pairsAt 2 = .ok (.iconst 0, 1) := by decide +kernel
theorem dX5_pairsAt_3 : decode cX5_pairsAt 3 = .ok (.istore 4, 2) := by decide +kernel
theorem dX5_pairsAt_5 : decode cX5_pairsAt 5 = .ok (.iload 4, 2) := by decide +kernel
theorem dX5_pairsAt_7 : decode cX5_pairsAt 7 = .ok (.bipush 100, 2) := by decide +kernel
theorem dX5_pairsAt_9 : decode cX5_pairsAt 9 = .ok (.if_icmp .ge 41, 3) := by decide +kernel
theorem dX5_pairsAt_12 : decode cX5_pairsAt 12 = .ok (.iload_n 3, 1) := by decide +kernel
theorem dX5_pairsAt_13 : decode cX5_pairsAt 13 = .ok (.aload_n 0, 1) := by decide +kernel
theorem dX5_pairsAt_14 : decode cX5_pairsAt 14 = .ok (.iload 4, 2) := by decide +kernel
theorem dX5_pairsAt_16 : decode cX5_pairsAt 16 = .ok (.invokevirtual 73, 3) := by decide +kernel
theorem dX5_pairsAt_19 : decode cX5_pairsAt 19 = .ok (.iload_n 1, 1) := by decide +kernel
theorem dX5_pairsAt_20 : decode cX5_pairsAt 20 = .ok (.if_icmp .ne 21, 3) := by decide +kernel
theorem dX5_pairsAt_23 : decode cX5_pairsAt 23 = .ok (.iload_n 2, 1) := by decide +kernel
theorem dX5_pairsAt_24 : decode cX5_pairsAt 24 = .ok (.ifCond .eq 13, 3) := by decide +kernel
theorem dX5_pairsAt_27 : decode cX5_pairsAt 27 = .ok (.aload_n 0, 1) := by decide +kernel
theorem dX5_pairsAt_28 : decode cX5_pairsAt 28 = .ok (.getfield 41, 3) := by decide +kernel
theorem dX5_pairsAt_31 : decode cX5_pairsAt 31 = .ok (.iload 4, 2) := by decide +kernel
theorem dX5_pairsAt_33 : decode cX5_pairsAt 33 = .ok (.iaload, 1) := by decide +kernel
theorem dX5_pairsAt_34 : decode cX5_pairsAt 34 = .ok (.ifCond .le 7, 3) := by decide +kernel
theorem dX5_pairsAt_37 : decode cX5_pairsAt 37 = .ok (.iconst 1, 1) := by decide +kernel
theorem dX5_pairsAt_38 : decode cX5_pairsAt 38 = .ok (.goto 4, 3) := by decide +kernel
theorem dX5_pairsAt_41 : decode cX5_pairsAt 41 = .ok (.iconst 0, 1) := by decide +kernel
theorem dX5_pairsAt_42 : decode cX5_pairsAt 42 = .ok (.iadd, 1) := by decide +kernel
theorem dX5_pairsAt_43 : decode cX5_pairsAt 43 = .ok (.istore_n 3, 1) := by decide +kernel
theorem dX5_pairsAt_44 : decode cX5_pairsAt 44 = .ok (.iinc 4 1, 3) := by decide +kernel
theorem dX5_pairsAt_47 : decode cX5_pairsAt 47 = .ok (.goto (-42), 3) := by decide +kernel
theorem dX5_pairsAt_50 : decode cX5_pairsAt 50 = .ok (.iload_n 3, 1) := by decide +kernel
theorem dX5_pairsAt_51 : decode cX5_pairsAt 51 = .ok (.ireturn, 1) := by decide +kernel
theorem dX5_shapesTold_0 : decode cX5_shapesTold 0 = .ok (.iload_n 2, 1) := by decide +kernel
theorem dX5_shapesTold_1 : decode cX5_shapesTold 1 = .ok (.ifCond .ne 15, 3) := by decide +kernel
theorem dX5_shapesTold_4 : decode cX5_shapesTold 4 = .ok (.aload_n 0, 1) := by decide +kernel
theorem dX5_shapesTold_5 : decode cX5_shapesTold 5 = .ok (.getfield 29, 3) := by decide +kernel
theorem dX5_shapesTold_8 : decode cX5_shapesTold 8 = .ok (.iload_n 1, 1) := by decide +kernel
theorem dX5_shapesTold_9 : decode cX5_shapesTold 9 = .ok (.iaload, 1) := by decide +kernel
theorem dX5_shapesTold_10 : decode cX5_shapesTold 10 = .ok (.bipush 100, 2) := by decide +kernel
theorem dX5_shapesTold_12 : decode cX5_shapesTold 12 = .ok (.iadd, 1) := by decide +kernel
theorem dX5_shapesTold_13 : decode cX5_shapesTold 13 = .ok (.goto 38, 3) := by decide +kernel
theorem dX5_shapesTold_16 : decode cX5_shapesTold 16 = .ok (.iload_n 2, 1) := by decide +kernel
theorem dX5_shapesTold_17 : decode cX5_shapesTold 17 = .ok (.iconst 1, 1) := by decide +kernel
theorem dX5_shapesTold_18 : decode cX5_shapesTold 18 = .ok (.if_icmp .ne 18, 3) := by decide +kernel
theorem dX5_shapesTold_21 : decode cX5_shapesTold 21 = .ok (.aload_n 0, 1) := by decide +kernel
theorem dX5_shapesTold_22 : decode cX5_shapesTold 22 = .ok (.getfield 7, 3) := by decide +kernel
theorem dX5_shapesTold_25 : decode cX5_shapesTold 25 = .ok (.bipush 38, 2) := by decide +kernel
theorem dX5_shapesTold_27 : decode cX5_shapesTold 27 = .ok (.iload_n 1, 1) := by decide +kernel
theorem dX5_shapesTold_28 : decode cX5_shapesTold 28 = .ok (.iadd, 1) := by decide +kernel
theorem dX5_shapesTold_29 : decode cX5_shapesTold 29 = .ok (.iaload, 1) := by decide +kernel
theorem dX5_shapesTold_30 : decode cX5_shapesTold 30 = .ok (.bipush 100, 2) := by decide +kernel
theorem dX5_shapesTold_32 : decode cX5_shapesTold 32 = .ok (.iadd, 1) := by decide +kernel
theorem dX5_shapesTold_33 : decode cX5_shapesTold 33 = .ok (.goto 18, 3) := by decide +kernel
theorem dX5_shapesTold_36 : decode cX5_shapesTold 36 = .ok (.aload_n 0, 1) := by decide +kernel
theorem dX5_shapesTold_37 : decode cX5_shapesTold 37 = .ok (.iload_n 1, 1) := by decide +kernel
theorem dX5_shapesTold_38 : decode cX5_shapesTold 38 = .ok (.iload_n 2, 1) := by decide +kernel
theorem dX5_shapesTold_39 : decode cX5_shapesTold 39 = .ok (.iconst 3, 1) := by decide +kernel
theorem dX5_shapesTold_40 : decode cX5_shapesTold 40 = .ok (.if_icmp .ne 7, 3) := by decide +kernel
theorem dX5_shapesTold_43 : decode cX5_shapesTold 43 = .ok (.iconst 1, 1) := by decide +kernel
theorem dX5_shapesTold_44 : decode cX5_shapesTold 44 = .ok (.goto 4, 3) := by decide +kernel
theorem dX5_shapesTold_47 : decode cX5_shapesTold 47 = .ok (.iconst 0, 1) := by decide +kernel
theorem dX5_shapesTold_48 : decode cX5_shapesTold 48 = .ok (.invokevirtual 170, 3) := by decide +kernel
theorem dX5_shapesTold_51 : decode cX5_shapesTold 51 = .ok (.ireturn, 1) := by decide +kernel
theorem dX5_shapesOf_0 : decode cX5_shapesOf 0 = .ok (.aload_n 0, 1) := by decide +kernel
theorem dX5_shapesOf_1 : decode cX5_shapesOf 1 = .ok (.iload_n 1, 1) := by decide +kernel
theorem dX5_shapesOf_2 : decode cX5_shapesOf 2 = .ok (.invokestatic 124, 3) := by decide +kernel
theorem dX5_shapesOf_5 : decode cX5_shapesOf 5 = .ok (.ifCond .eq 10, 3) := by decide +kernel
theorem dX5_shapesOf_8 : decode cX5_shapesOf 8 = .ok (.iload_n 2, 1) := by decide +kernel
theorem dX5_shapesOf_9 : decode cX5_shapesOf 9 = .ok (.invokestatic 124, 3) := by decide +kernel
theorem dX5_shapesOf_12 : decode cX5_shapesOf 12 = .ok (.ifCond .ne 7, 3) := by decide +kernel
theorem dX5_shapesOf_15 : decode cX5_shapesOf 15 = .ok (.iconst 1, 1) := by decide +kernel
theorem dX5_shapesOf_16 : decode cX5_shapesOf 16 = .ok (.goto 17, 3) := by decide +kernel
theorem dX5_shapesOf_19 : decode cX5_shapesOf 19 = .ok (.iload_n 3, 1) := by decide +kernel
theorem dX5_shapesOf_20 : decode cX5_shapesOf 20 = .ok (.iconst 0, 1) := by decide +kernel
theorem dX5_shapesOf_21 : decode cX5_shapesOf 21 = .ok (.iconst 3, 1) := by decide +kernel
theorem dX5_shapesOf_22 : decode cX5_shapesOf 22 = .ok (.invokestatic 58, 3) := by decide +kernel
theorem dX5_shapesOf_25 : decode cX5_shapesOf 25 = .ok (.ifCond .ne 7, 3) := by decide +kernel
theorem dX5_shapesOf_28 : decode cX5_shapesOf 28 = .ok (.iconst 2, 1) := by decide +kernel
theorem dX5_shapesOf_29 : decode cX5_shapesOf 29 = .ok (.goto 4, 3) := by decide +kernel
theorem dX5_shapesOf_32 : decode cX5_shapesOf 32 = .ok (.iconst 0, 1) := by decide +kernel
theorem dX5_shapesOf_33 : decode cX5_shapesOf 33 = .ok (.invokevirtual 118, 3) := by decide +kernel
theorem dX5_shapesOf_36 : decode cX5_shapesOf 36 = .ok (.ifCond .ne 5, 3) := by decide +kernel
theorem dX5_shapesOf_39 : decode cX5_shapesOf 39 = .ok (.iconst 0, 1) := by decide +kernel
theorem dX5_shapesOf_40 : decode cX5_shapesOf 40 = .ok (.ireturn, 1) := by decide +kernel
theorem dX5_shapesOf_41 : decode cX5_shapesOf 41 = .ok (.aload_n 0, 1) := by decide +kernel
theorem dX5_shapesOf_42 : decode cX5_shapesOf 42 = .ok (.invokevirtual 98, 3) := by decide +kernel
theorem dX5_shapesOf_45 : decode cX5_shapesOf 45 = .ok (.aload_n 0, 1) := by decide +kernel
theorem dX5_shapesOf_46 : decode cX5_shapesOf 46 = .ok (.iconst 4, 1) := by decide +kernel
theorem dX5_shapesOf_47 : decode cX5_shapesOf 47 = .ok (.iload_n 1, 1) := by decide +kernel
theorem dX5_shapesOf_48 : decode cX5_shapesOf 48 = .ok (.imul, 1) := by decide +kernel
theorem dX5_shapesOf_49 : decode cX5_shapesOf 49 = .ok (.iload_n 2, 1) := by decide +kernel
theorem dX5_shapesOf_50 : decode cX5_shapesOf 50 = .ok (.iadd, 1) := by decide +kernel
theorem dX5_shapesOf_51 : decode cX5_shapesOf 51 = .ok (.iload_n 3, 1) := by decide +kernel
theorem dX5_shapesOf_52 : decode cX5_shapesOf 52 = .ok (.invokevirtual 174, 3) := by decide +kernel
theorem dX5_shapesOf_55 : decode cX5_shapesOf 55 = .ok (.ireturn, 1) := by decide +kernel
theorem dX5_lessonTold_0 : decode cX5_lessonTold 0 = .ok (.iload_n 2, 1) := by decide +kernel
theorem dX5_lessonTold_1 : decode cX5_lessonTold 1 = .ok (.iconst 2, 1) := by decide +kernel
theorem dX5_lessonTold_2 : decode cX5_lessonTold 2 = .ok (.if_icmp .ge 10, 3) := by decide +kernel
theorem dX5_lessonTold_5 : decode cX5_lessonTold 5 = .ok (.aload_n 0, 1) := by decide +kernel
theorem dX5_lessonTold_6 : decode cX5_lessonTold 6 = .ok (.iload_n 1, 1) := by decide +kernel
theorem dX5_lessonTold_7 : decode cX5_lessonTold 7 = .ok (.iload_n 2, 1) := by decide +kernel
theorem dX5_lessonTold_8 : decode cX5_lessonTold 8 = .ok (.invokevirtual 80, 3) := by decide +kernel
theorem dX5_lessonTold_11 : decode cX5_lessonTold 11 = .ok (.ireturn, 1) := by decide +kernel
theorem dX5_lessonTold_12 : decode cX5_lessonTold 12 = .ok (.iload_n 2, 1) := by decide +kernel
theorem dX5_lessonTold_13 : decode cX5_lessonTold 13 = .ok (.iconst 2, 1) := by decide +kernel
theorem dX5_lessonTold_14 : decode cX5_lessonTold 14 = .ok (.if_icmp .ne 21, 3) := by decide +kernel
theorem dX5_lessonTold_17 : decode cX5_lessonTold 17 = .ok (.aload_n 0, 1) := by decide +kernel
theorem dX5_lessonTold_18 : decode cX5_lessonTold 18 = .ok (.iload_n 1, 1) := by decide +kernel
theorem dX5_lessonTold_19 : decode cX5_lessonTold 19 = .ok (.iconst 2, 1) := by decide +kernel
theorem dX5_lessonTold_20 : decode cX5_lessonTold 20 = .ok (.invokevirtual 80, 3) := by decide +kernel
theorem dX5_lessonTold_23 : decode cX5_lessonTold 23 = .ok (.iconst 1, 1) := by decide +kernel
theorem dX5_lessonTold_24 : decode cX5_lessonTold 24 = .ok (.if_icmp .ne 7, 3) := by decide +kernel
theorem dX5_lessonTold_27 : decode cX5_lessonTold 27 = .ok (.iconst 1, 1) := by decide +kernel
theorem dX5_lessonTold_28 : decode cX5_lessonTold 28 = .ok (.goto 21, 3) := by decide +kernel
theorem dX5_lessonTold_31 : decode cX5_lessonTold 31 = .ok (.iconst 0, 1) := by decide +kernel
theorem dX5_lessonTold_32 : decode cX5_lessonTold 32 = .ok (.goto 17, 3) := by decide +kernel
theorem dX5_lessonTold_35 : decode cX5_lessonTold 35 = .ok (.aload_n 0, 1) := by decide +kernel
theorem dX5_lessonTold_36 : decode cX5_lessonTold 36 = .ok (.getfield 44, 3) := by decide +kernel
theorem dX5_lessonTold_39 : decode cX5_lessonTold 39 = .ok (.iload_n 1, 1) := by decide +kernel
theorem dX5_lessonTold_40 : decode cX5_lessonTold 40 = .ok (.baload, 1) := by decide +kernel
theorem dX5_lessonTold_41 : decode cX5_lessonTold 41 = .ok (.ifCond .eq 7, 3) := by decide +kernel
theorem dX5_lessonTold_44 : decode cX5_lessonTold 44 = .ok (.iconst 1, 1) := by decide +kernel
theorem dX5_lessonTold_45 : decode cX5_lessonTold 45 = .ok (.goto 4, 3) := by decide +kernel
theorem dX5_lessonTold_48 : decode cX5_lessonTold 48 = .ok (.iconst 0, 1) := by decide +kernel
theorem dX5_lessonTold_49 : decode cX5_lessonTold 49 = .ok (.ireturn, 1) := by decide +kernel
theorem dX5_lessonOf_0 : decode cX5_lessonOf 0 = .ok (.aload_n 0, 1) := by decide +kernel
theorem dX5_lessonOf_1 : decode cX5_lessonOf 1 = .ok (.aload_n 0, 1) := by decide +kernel
theorem dX5_lessonOf_2 : decode cX5_lessonOf 2 = .ok (.iload_n 1, 1) := by decide +kernel
theorem dX5_lessonOf_3 : decode cX5_lessonOf 3 = .ok (.invokevirtual 136, 3) := by decide +kernel
theorem dX5_lessonOf_6 : decode cX5_lessonOf 6 = .ok (.ifCond .ne 7, 3) := by decide +kernel
theorem dX5_lessonOf_9 : decode cX5_lessonOf 9 = .ok (.iconst 1, 1) := by decide +kernel
theorem dX5_lessonOf_10 : decode cX5_lessonOf 10 = .ok (.goto 17, 3) := by decide +kernel
theorem dX5_lessonOf_13 : decode cX5_lessonOf 13 = .ok (.iload_n 2, 1) := by decide +kernel
theorem dX5_lessonOf_14 : decode cX5_lessonOf 14 = .ok (.iconst 0, 1) := by decide +kernel
theorem dX5_lessonOf_15 : decode cX5_lessonOf 15 = .ok (.iconst 3, 1) := by decide +kernel
theorem dX5_lessonOf_16 : decode cX5_lessonOf 16 = .ok (.invokestatic 58, 3) := by decide +kernel
theorem dX5_lessonOf_19 : decode cX5_lessonOf 19 = .ok (.ifCond .ne 7, 3) := by decide +kernel
theorem dX5_lessonOf_22 : decode cX5_lessonOf 22 = .ok (.iconst 2, 1) := by decide +kernel
theorem dX5_lessonOf_23 : decode cX5_lessonOf 23 = .ok (.goto 4, 3) := by decide +kernel
theorem dX5_lessonOf_26 : decode cX5_lessonOf 26 = .ok (.iconst 0, 1) := by decide +kernel
theorem dX5_lessonOf_27 : decode cX5_lessonOf 27 = .ok (.invokevirtual 118, 3) := by decide +kernel
theorem dX5_lessonOf_30 : decode cX5_lessonOf 30 = .ok (.ifCond .ne 5, 3) := by decide +kernel
theorem dX5_lessonOf_33 : decode cX5_lessonOf 33 = .ok (.iconst 0, 1) := by decide +kernel
theorem dX5_lessonOf_34 : decode cX5_lessonOf 34 = .ok (.ireturn, 1) := by decide +kernel
theorem dX5_lessonOf_35 : decode cX5_lessonOf 35 = .ok (.aload_n 0, 1) := by decide +kernel
theorem dX5_lessonOf_36 : decode cX5_lessonOf 36 = .ok (.invokevirtual 98, 3) := by decide +kernel
theorem dX5_lessonOf_39 : decode cX5_lessonOf 39 = .ok (.aload_n 0, 1) := by decide +kernel
theorem dX5_lessonOf_40 : decode cX5_lessonOf 40 = .ok (.iload_n 1, 1) := by decide +kernel
theorem dX5_lessonOf_41 : decode cX5_lessonOf 41 = .ok (.iload_n 2, 1) := by decide +kernel
theorem dX5_lessonOf_42 : decode cX5_lessonOf 42 = .ok (.invokevirtual 177, 3) := by decide +kernel
theorem dX5_lessonOf_45 : decode cX5_lessonOf 45 = .ok (.ireturn, 1) := by decide +kernel
theorem dX5_idleLessons_0 : decode cX5_idleLessons 0 = .ok (.iconst 0, 1) := by decide +kernel
theorem dX5_idleLessons_1 : decode cX5_idleLessons 1 = .ok (.istore_n 1, 1) := by decide +kernel
theorem dX5_idleLessons_2 : decode cX5_idleLessons 2 = .ok (.iconst 0, 1) := by decide +kernel
theorem dX5_idleLessons_3 : decode cX5_idleLessons 3 = .ok (.istore_n 2, 1) := by decide +kernel
theorem dX5_idleLessons_4 : decode cX5_idleLessons 4 = .ok (.iload_n 2, 1) := by decide +kernel
theorem dX5_idleLessons_5 : decode cX5_idleLessons 5 = .ok (.aload_n 0, 1) := by decide +kernel
theorem dX5_idleLessons_6 : decode cX5_idleLessons 6 = .ok (.getfield 7, 3) := by decide +kernel
theorem dX5_idleLessons_9 : decode cX5_idleLessons 9 = .ok (.iconst 0, 1) := by decide +kernel
theorem dX5_idleLessons_10 : decode cX5_idleLessons 10 = .ok (.iaload, 1) := by decide +kernel
theorem dX5_idleLessons_11 : decode cX5_idleLessons 11 = .ok (.if_icmp .ge 26, 3) := by decide +kernel
theorem dX5_idleLessons_14 : decode cX5_idleLessons 14 = .ok (.iload_n 1, 1) := by decide +kernel
theorem dX5_idleLessons_15 : decode cX5_idleLessons 15 = .ok (.aload_n 0, 1) := by decide +kernel
theorem dX5_idleLessons_16 : decode cX5_idleLessons 16 = .ok (.getfield 44, 3) := by decide +kernel
theorem dX5_idleLessons_19 : decode cX5_idleLessons 19 = .ok (.iload_n 2, 1) := by decide +kernel
theorem dX5_idleLessons_20 : decode cX5_idleLessons 20 = .ok (.baload, 1) := by decide +kernel
theorem dX5_idleLessons_21 : decode cX5_idleLessons 21 = .ok (.ifCond .eq 7, 3) := by decide +kernel
theorem dX5_idleLessons_24 : decode cX5_idleLessons 24 = .ok (.iconst 1, 1) := by decide +kernel
theorem dX5_idleLessons_25 : decode cX5_idleLessons 25 = .ok (.goto 4, 3) := by decide +kernel
theorem dX5_idleLessons_28 : decode cX5_idleLessons 28 = .ok (.iconst 0, 1) := by decide +kernel
theorem dX5_idleLessons_29 : decode cX5_idleLessons 29 = .ok (.iadd, 1) := by decide +kernel
theorem dX5_idleLessons_30 : decode cX5_idleLessons 30 = .ok (.istore_n 1, 1) := by decide +kernel
theorem dX5_idleLessons_31 : decode cX5_idleLessons 31 = .ok (.iinc 2 1, 3) := by decide +kernel
theorem dX5_idleLessons_34 : decode cX5_idleLessons 34 = .ok (.goto (-30), 3) := by decide +kernel
theorem dX5_idleLessons_37 : decode cX5_idleLessons 37 = .ok (.iload_n 1, 1) := by decide +kernel
theorem dX5_idleLessons_38 : decode cX5_idleLessons 38 = .ok (.ireturn, 1) := by decide +kernel
theorem dX5_learntPairs_0 : decode cX5_learntPairs 0 = .ok (.iconst 0, 1) := by decide +kernel
theorem dX5_learntPairs_1 : decode cX5_learntPairs 1 = .ok (.istore_n 1, 1) := by decide +kernel
theorem dX5_learntPairs_2 : decode cX5_learntPairs 2 = .ok (.iconst 0, 1) := by decide +kernel
theorem dX5_learntPairs_3 : decode cX5_learntPairs 3 = .ok (.istore_n 2, 1) := by decide +kernel
theorem dX5_learntPairs_4 : decode cX5_learntPairs 4 = .ok (.iload_n 2, 1) := by decide +kernel
theorem dX5_learntPairs_5 : decode cX5_learntPairs 5 = .ok (.bipush 100, 2) := by decide +kernel
theorem dX5_learntPairs_7 : decode cX5_learntPairs 7 = .ok (.if_icmp .ge 26, 3) := by decide +kernel
theorem dX5_learntPairs_10 : decode cX5_learntPairs 10 = .ok (.iload_n 1, 1) := by decide +kernel
theorem dX5_learntPairs_11 : decode cX5_learntPairs 11 = .ok (.aload_n 0, 1) := by decide +kernel
theorem dX5_learntPairs_12 : decode cX5_learntPairs 12 = .ok (.getfield 41, 3) := by decide +kernel
theorem dX5_learntPairs_15 : decode cX5_learntPairs 15 = .ok (.iload_n 2, 1) := by decide +kernel
theorem dX5_learntPairs_16 : decode cX5_learntPairs 16 = .ok (.iaload, 1) := by decide +kernel
theorem dX5_learntPairs_17 : decode cX5_learntPairs 17 = .ok (.ifCond .le 7, 3) := by decide +kernel
theorem dX5_learntPairs_20 : decode cX5_learntPairs 20 = .ok (.iconst 1, 1) := by decide +kernel
theorem dX5_learntPairs_21 : decode cX5_learntPairs 21 = .ok (.goto 4, 3) := by decide +kernel
theorem dX5_learntPairs_24 : decode cX5_learntPairs 24 = .ok (.iconst 0, 1) := by decide +kernel
theorem dX5_learntPairs_25 : decode cX5_learntPairs 25 = .ok (.iadd, 1) := by decide +kernel
theorem dX5_learntPairs_26 : decode cX5_learntPairs 26 = .ok (.istore_n 1, 1) := by decide +kernel
theorem dX5_learntPairs_27 : decode cX5_learntPairs 27 = .ok (.iinc 2 1, 3) := by decide +kernel
theorem dX5_learntPairs_30 : decode cX5_learntPairs 30 = .ok (.goto (-26), 3) := by decide +kernel
theorem dX5_learntPairs_33 : decode cX5_learntPairs 33 = .ok (.iload_n 1, 1) := by decide +kernel
theorem dX5_learntPairs_34 : decode cX5_learntPairs 34 = .ok (.ireturn, 1) := by decide +kernel
theorem dX5_otherShapes_0 : decode cX5_otherShapes 0 = .ok (.iconst 0, 1) := by decide +kernel
theorem dX5_otherShapes_1 : decode cX5_otherShapes 1 = .ok (.istore_n 1, 1) := by decide +kernel
theorem dX5_otherShapes_2 : decode cX5_otherShapes 2 = .ok (.iconst 0, 1) := by decide +kernel
theorem dX5_otherShapes_3 : decode cX5_otherShapes 3 = .ok (.istore_n 2, 1) := by decide +kernel
theorem dX5_otherShapes_4 : decode cX5_otherShapes 4 = .ok (.iload_n 2, 1) := by decide +kernel
theorem dX5_otherShapes_5 : decode cX5_otherShapes 5 = .ok (.bipush 16, 2) := by decide +kernel
theorem dX5_otherShapes_7 : decode cX5_otherShapes 7 = .ok (.if_icmp .ge 35, 3) := by decide +kernel
theorem dX5_otherShapes_10 : decode cX5_otherShapes 10 = .ok (.iload_n 1, 1) := by decide +kernel
theorem dX5_otherShapes_11 : decode cX5_otherShapes 11 = .ok (.aload_n 0, 1) := by decide +kernel
theorem dX5_otherShapes_12 : decode cX5_otherShapes 12 = .ok (.getfield 29, 3) := by decide +kernel
theorem dX5_otherShapes_15 : decode cX5_otherShapes 15 = .ok (.iload_n 2, 1) := by decide +kernel
theorem dX5_otherShapes_16 : decode cX5_otherShapes 16 = .ok (.iaload, 1) := by decide +kernel
theorem dX5_otherShapes_17 : decode cX5_otherShapes 17 = .ok (.aload_n 0, 1) := by decide +kernel
theorem dX5_otherShapes_18 : decode cX5_otherShapes 18 = .ok (.getfield 7, 3) := by decide +kernel
theorem dX5_otherShapes_21 : decode cX5_otherShapes 21 = .ok (.bipush 38, 2) := by decide +kernel
theorem dX5_otherShapes_23 : decode cX5_otherShapes 23 = .ok (.iload_n 2, 1) := by decide +kernel
theorem dX5_otherShapes_24 : decode cX5_otherShapes 24 = .ok (.iadd, 1) := by decide +kernel
theorem dX5_otherShapes_25 : decode cX5_otherShapes 25 = .ok (.iaload, 1) := by decide +kernel
theorem dX5_otherShapes_26 : decode cX5_otherShapes 26 = .ok (.if_icmp .eq 7, 3) := by decide +kernel
theorem dX5_otherShapes_29 : decode cX5_otherShapes 29 = .ok (.iconst 1, 1) := by decide +kernel
theorem dX5_otherShapes_30 : decode cX5_otherShapes 30 = .ok (.goto 4, 3) := by decide +kernel
theorem dX5_otherShapes_33 : decode cX5_otherShapes 33 = .ok (.iconst 0, 1) := by decide +kernel
theorem dX5_otherShapes_34 : decode cX5_otherShapes 34 = .ok (.iadd, 1) := by decide +kernel
theorem dX5_otherShapes_35 : decode cX5_otherShapes 35 = .ok (.istore_n 1, 1) := by decide +kernel
theorem dX5_otherShapes_36 : decode cX5_otherShapes 36 = .ok (.iinc 2 1, 3) := by decide +kernel
theorem dX5_otherShapes_39 : decode cX5_otherShapes 39 = .ok (.goto (-35), 3) := by decide +kernel
theorem dX5_otherShapes_42 : decode cX5_otherShapes 42 = .ok (.iload_n 1, 1) := by decide +kernel
theorem dX5_otherShapes_43 : decode cX5_otherShapes 43 = .ok (.ireturn, 1) := by decide +kernel
theorem dX5_countTold_0 : decode cX5_countTold 0 = .ok (.iload_n 1, 1) := by decide +kernel
theorem dX5_countTold_1 : decode cX5_countTold 1 = .ok (.tableswitch 88 0 6 #[43, 50, 55, 60, 65, 72, 80], 43) := by decide +kernel
theorem dX5_countTold_44 : decode cX5_countTold 44 = .ok (.aload_n 0, 1) := by decide +kernel
theorem dX5_countTold_45 : decode cX5_countTold 45 = .ok (.getfield 7, 3) := by decide +kernel
theorem dX5_countTold_48 : decode cX5_countTold 48 = .ok (.iconst 0, 1) := by decide +kernel
theorem dX5_countTold_49 : decode cX5_countTold 49 = .ok (.iaload, 1) := by decide +kernel
theorem dX5_countTold_50 : decode cX5_countTold 50 = .ok (.ireturn, 1) := by decide +kernel
theorem dX5_countTold_51 : decode cX5_countTold 51 = .ok (.aload_n 0, 1) := by decide +kernel
theorem dX5_countTold_52 : decode cX5_countTold 52 = .ok (.invokevirtual 180, 3) := by decide +kernel
theorem dX5_countTold_55 : decode cX5_countTold 55 = .ok (.ireturn, 1) := by decide +kernel
theorem dX5_countTold_56 : decode cX5_countTold 56 = .ok (.aload_n 0, 1) := by decide +kernel
theorem dX5_countTold_57 : decode cX5_countTold 57 = .ok (.invokevirtual 183, 3) := by decide +kernel
theorem dX5_countTold_60 : decode cX5_countTold 60 = .ok (.ireturn, 1) := by decide +kernel
theorem dX5_countTold_61 : decode cX5_countTold 61 = .ok (.aload_n 0, 1) := by decide +kernel
theorem dX5_countTold_62 : decode cX5_countTold 62 = .ok (.invokevirtual 186, 3) := by decide +kernel
theorem dX5_countTold_65 : decode cX5_countTold 65 = .ok (.ireturn, 1) := by decide +kernel
theorem dX5_countTold_66 : decode cX5_countTold 66 = .ok (.aload_n 0, 1) := by decide +kernel
theorem dX5_countTold_67 : decode cX5_countTold 67 = .ok (.getfield 7, 3) := by decide +kernel
theorem dX5_countTold_70 : decode cX5_countTold 70 = .ok (.iconst 5, 1) := by decide +kernel
theorem dX5_countTold_71 : decode cX5_countTold 71 = .ok (.iaload, 1) := by decide +kernel
theorem dX5_countTold_72 : decode cX5_countTold 72 = .ok (.ireturn, 1) := by decide +kernel
theorem dX5_countTold_73 : decode cX5_countTold 73 = .ok (.aload_n 0, 1) := by decide +kernel
theorem dX5_countTold_74 : decode cX5_countTold 74 = .ok (.getfield 7, 3) := by decide +kernel
theorem dX5_countTold_77 : decode cX5_countTold 77 = .ok (.bipush 6, 2) := by decide +kernel
theorem dX5_countTold_79 : decode cX5_countTold 79 = .ok (.iaload, 1) := by decide +kernel
theorem dX5_countTold_80 : decode cX5_countTold 80 = .ok (.ireturn, 1) := by decide +kernel
theorem dX5_countTold_81 : decode cX5_countTold 81 = .ok (.aload_n 0, 1) := by decide +kernel
theorem dX5_countTold_82 : decode cX5_countTold 82 = .ok (.getfield 7, 3) := by decide +kernel
theorem dX5_countTold_85 : decode cX5_countTold 85 = .ok (.bipush 7, 2) := by decide +kernel
theorem dX5_countTold_87 : decode cX5_countTold 87 = .ok (.iaload, 1) := by decide +kernel
theorem dX5_countTold_88 : decode cX5_countTold 88 = .ok (.ireturn, 1) := by decide +kernel
theorem dX5_countTold_89 : decode cX5_countTold 89 = .ok (.aload_n 0, 1) := by decide +kernel
theorem dX5_countTold_90 : decode cX5_countTold 90 = .ok (.getfield 66, 3) := by decide +kernel
theorem dX5_countTold_93 : decode cX5_countTold 93 = .ok (.ireturn, 1) := by decide +kernel
theorem dX5_count_0 : decode cX5_count 0 = .ok (.aload_n 0, 1) := by decide +kernel
theorem dX5_count_1 : decode cX5_count 1 = .ok (.iload_n 1, 1) := by decide +kernel
theorem dX5_count_2 : decode cX5_count 2 = .ok (.iconst 0, 1) := by decide +kernel
theorem dX5_count_3 : decode cX5_count 3 = .ok (.bipush 7, 2) := by decide +kernel
theorem dX5_count_5 : decode cX5_count 5 = .ok (.invokestatic 58, 3) := by decide +kernel
theorem dX5_count_8 : decode cX5_count 8 = .ok (.ifCond .eq 7, 3) := by decide +kernel
theorem dX5_count_11 : decode cX5_count 11 = .ok (.iconst 0, 1) := by decide +kernel
theorem dX5_count_12 : decode cX5_count 12 = .ok (.goto 4, 3) := by decide +kernel
theorem dX5_count_15 : decode cX5_count 15 = .ok (.iconst 1, 1) := by decide +kernel
theorem dX5_count_16 : decode cX5_count 16 = .ok (.invokevirtual 118, 3) := by decide +kernel
theorem dX5_count_19 : decode cX5_count 19 = .ok (.ifCond .ne 5, 3) := by decide +kernel
theorem dX5_count_22 : decode cX5_count 22 = .ok (.iconst 0, 1) := by decide +kernel
theorem dX5_count_23 : decode cX5_count 23 = .ok (.ireturn, 1) := by decide +kernel
theorem dX5_count_24 : decode cX5_count 24 = .ok (.aload_n 0, 1) := by decide +kernel
theorem dX5_count_25 : decode cX5_count 25 = .ok (.invokevirtual 98, 3) := by decide +kernel
theorem dX5_count_28 : decode cX5_count 28 = .ok (.aload_n 0, 1) := by decide +kernel
theorem dX5_count_29 : decode cX5_count 29 = .ok (.iload_n 1, 1) := by decide +kernel
theorem dX5_count_30 : decode cX5_count 30 = .ok (.invokevirtual 189, 3) := by decide +kernel
theorem dX5_count_33 : decode cX5_count 33 = .ok (.ireturn, 1) := by decide +kernel
theorem dX5_setting_0 : decode cX5_setting 0 = .ok (.aload_n 0, 1) := by decide +kernel
theorem dX5_setting_1 : decode cX5_setting 1 = .ok (.iload_n 1, 1) := by decide +kernel
theorem dX5_setting_2 : decode cX5_setting 2 = .ok (.iconst 0, 1) := by decide +kernel
theorem dX5_setting_3 : decode cX5_setting 3 = .ok (.iconst 3, 1) := by decide +kernel
theorem dX5_setting_4 : decode cX5_setting 4 = .ok (.invokestatic 58, 3) := by decide +kernel
theorem dX5_setting_7 : decode cX5_setting 7 = .ok (.ifCond .eq 7, 3) := by decide +kernel
theorem dX5_setting_10 : decode cX5_setting 10 = .ok (.iconst 0, 1) := by decide +kernel
theorem dX5_setting_11 : decode cX5_setting 11 = .ok (.goto 4, 3) := by decide +kernel
theorem dX5_setting_14 : decode cX5_setting 14 = .ok (.iconst 1, 1) := by decide +kernel
theorem dX5_setting_15 : decode cX5_setting 15 = .ok (.invokevirtual 118, 3) := by decide +kernel
theorem dX5_setting_18 : decode cX5_setting 18 = .ok (.ifCond .eq 14, 3) := by decide +kernel
theorem dX5_setting_21 : decode cX5_setting 21 = .ok (.aload_n 0, 1) := by decide +kernel
theorem dX5_setting_22 : decode cX5_setting 22 = .ok (.getfield 7, 3) := by decide +kernel
theorem dX5_setting_25 : decode cX5_setting 25 = .ok (.iconst 1, 1) := by decide +kernel
theorem dX5_setting_26 : decode cX5_setting 26 = .ok (.iload_n 1, 1) := by decide +kernel
theorem dX5_setting_27 : decode cX5_setting 27 = .ok (.iadd, 1) := by decide +kernel
theorem dX5_setting_28 : decode cX5_setting 28 = .ok (.iaload, 1) := by decide +kernel
theorem dX5_setting_29 : decode cX5_setting 29 = .ok (.goto 4, 3) := by decide +kernel
theorem dX5_setting_32 : decode cX5_setting 32 = .ok (.iconst 0, 1) := by decide +kernel
theorem dX5_setting_33 : decode cX5_setting 33 = .ok (.ireturn, 1) := by decide +kernel
theorem dX5_endOf_0 : decode cX5_endOf 0 = .ok (.iload_n 1, 1) := by decide +kernel
theorem dX5_endOf_1 : decode cX5_endOf 1 = .ok (.istore_n 2, 1) := by decide +kernel
theorem dX5_endOf_2 : decode cX5_endOf 2 = .ok (.aload_n 0, 1) := by decide +kernel
theorem dX5_endOf_3 : decode cX5_endOf 3 = .ok (.iload_n 2, 1) := by decide +kernel
theorem dX5_endOf_4 : decode cX5_endOf 4 = .ok (.invokevirtual 145, 3) := by decide +kernel
theorem dX5_endOf_7 : decode cX5_endOf 7 = .ok (.ifCond .eq 9, 3) := by decide +kernel
theorem dX5_endOf_10 : decode cX5_endOf 10 = .ok (.iinc 2 1, 3) := by decide +kernel
theorem dX5_endOf_13 : decode cX5_endOf 13 = .ok (.goto (-11), 3) := by decide +kernel
theorem dX5_endOf_16 : decode cX5_endOf 16 = .ok (.iload_n 2, 1) := by decide +kernel
theorem dX5_endOf_17 : decode cX5_endOf 17 = .ok (.ireturn, 1) := by decide +kernel
theorem dX5_widthOfWord_0 : decode cX5_widthOfWord 0 = .ok (.iconst 0, 1) := by decide +kernel
theorem dX5_widthOfWord_1 : decode cX5_widthOfWord 1 = .ok (.istore_n 2, 1) := by decide +kernel
theorem dX5_widthOfWord_2 : decode cX5_widthOfWord 2 = .ok (.iload_n 1, 1) := by decide +kernel
theorem dX5_widthOfWord_3 : decode cX5_widthOfWord 3 = .ok (.istore_n 3, 1) := by decide +kernel
theorem dX5_widthOfWord_4 : decode cX5_widthOfWord 4 = .ok (.aload_n 0, 1) := by decide +kernel
theorem dX5_widthOfWord_5 : decode cX5_widthOfWord 5 = .ok (.iload_n 3, 1) := by decide +kernel
theorem dX5_widthOfWord_6 : decode cX5_widthOfWord 6 = .ok (.invokevirtual 145, 3) := by decide +kernel
theorem dX5_widthOfWord_9 : decode cX5_widthOfWord 9 = .ok (.ifCond .eq 50, 3) := by decide +kernel
theorem dX5_widthOfWord_12 : decode cX5_widthOfWord 12 = .ok (.iload_n 2, 1) := by decide +kernel
theorem dX5_widthOfWord_13 : decode cX5_widthOfWord 13 = .ok (.aload_n 0, 1) := by decide +kernel
theorem dX5_widthOfWord_14 : decode cX5_widthOfWord 14 = .ok (.aload_n 0, 1) := by decide +kernel
theorem dX5_widthOfWord_15 : decode cX5_widthOfWord 15 = .ok (.getfield 26, 3) := by decide +kernel
theorem dX5_widthOfWord_18 : decode cX5_widthOfWord 18 = .ok (.iload_n 3, 1) := by decide +kernel
theorem dX5_widthOfWord_19 : decode cX5_widthOfWord 19 = .ok (.iaload, 1) := by decide +kernel
theorem dX5_widthOfWord_20 : decode cX5_widthOfWord 20 = .ok (.bipush 97, 2) := by decide +kernel
theorem dX5_widthOfWord_22 : decode cX5_widthOfWord 22 = .ok (.isub, 1) := by decide +kernel
theorem dX5_widthOfWord_23 : decode cX5_widthOfWord 23 = .ok (.iconst 0, 1) := by decide +kernel
theorem dX5_widthOfWord_24 : decode cX5_widthOfWord 24 = .ok (.invokevirtual 62, 3) := by decide +kernel
theorem dX5_widthOfWord_27 : decode cX5_widthOfWord 27 = .ok (.aload_n 0, 1) := by decide +kernel
theorem dX5_widthOfWord_28 : decode cX5_widthOfWord 28 = .ok (.iload_n 3, 1) := by decide +kernel
theorem dX5_widthOfWord_29 : decode cX5_widthOfWord 29 = .ok (.iconst 1, 1) := by decide +kernel
theorem dX5_widthOfWord_30 : decode cX5_widthOfWord 30 = .ok (.iadd, 1) := by decide +kernel
theorem dX5_widthOfWord_31 : decode cX5_widthOfWord 31 = .ok (.invokevirtual 145, 3) := by decide +kernel
theorem dX5_widthOfWord_34 : decode cX5_widthOfWord 34 = .ok (.ifCond .eq 15, 3) := by decide +kernel
theorem dX5_widthOfWord_37 : decode cX5_widthOfWord 37 = .ok (.aload_n 0, 1) := by decide +kernel
theorem dX5_widthOfWord_38 : decode cX5_widthOfWord 38 = .ok (.aload_n 0, 1) := by decide +kernel
theorem dX5_widthOfWord_39 : decode cX5_widthOfWord 39 = .ok (.iload_n 3, 1) := by decide +kernel
theorem dX5_widthOfWord_40 : decode cX5_widthOfWord 40 = .ok (.invokevirtual 155, 3) := by decide +kernel
theorem dX5_widthOfWord_43 : decode cX5_widthOfWord 43 = .ok (.invokevirtual 77, 3) := by decide +kernel
theorem dX5_widthOfWord_46 : decode cX5_widthOfWord 46 = .ok (.goto 4, 3) := by decide +kernel
theorem dX5_widthOfWord_49 : decode cX5_widthOfWord 49 = .ok (.iconst 0, 1) := by decide +kernel
theorem dX5_widthOfWord_50 : decode cX5_widthOfWord 50 = .ok (.iadd, 1) := by decide +kernel
theorem dX5_widthOfWord_51 : decode cX5_widthOfWord 51 = .ok (.iadd, 1) := by decide +kernel
theorem dX5_widthOfWord_52 : decode cX5_widthOfWord 52 = .ok (.istore_n 2, 1) := by decide +kernel
theorem dX5_widthOfWord_53 : decode cX5_widthOfWord 53 = .ok (.iinc 3 1, 3) := by decide +kernel
theorem dX5_widthOfWord_56 : decode cX5_widthOfWord 56 = .ok (.goto (-52), 3) := by decide +kernel
theorem dX5_widthOfWord_59 : decode cX5_widthOfWord 59 = .ok (.iload_n 2, 1) := by decide +kernel
theorem dX5_widthOfWord_60 : decode cX5_widthOfWord 60 = .ok (.ireturn, 1) := by decide +kernel
theorem dX5_widthOfText_0 : decode cX5_widthOfText 0 = .ok (.aload_n 0, 1) := by decide +kernel
theorem dX5_widthOfText_1 : decode cX5_widthOfText 1 = .ok (.getfield 7, 3) := by decide +kernel
theorem dX5_widthOfText_4 : decode cX5_widthOfText 4 = .ok (.iconst 3, 1) := by decide +kernel
theorem dX5_widthOfText_5 : decode cX5_widthOfText 5 = .ok (.iaload, 1) := by decide +kernel
theorem dX5_widthOfText_6 : decode cX5_widthOfText 6 = .ok (.ineg, 1) := by decide +kernel
theorem dX5_widthOfText_7 : decode cX5_widthOfText 7 = .ok (.istore_n 1, 1) := by decide +kernel
theorem dX5_widthOfText_8 : decode cX5_widthOfText 8 = .ok (.iconst 0, 1) := by decide +kernel
theorem dX5_widthOfText_9 : decode cX5_widthOfText 9 = .ok (.istore_n 2, 1) := by decide +kernel
theorem dX5_widthOfText_10 : decode cX5_widthOfText 10 = .ok (.iload_n 2, 1) := by decide +kernel
theorem dX5_widthOfText_11 : decode cX5_widthOfText 11 = .ok (.aload_n 0, 1) := by decide +kernel
theorem dX5_widthOfText_12 : decode cX5_widthOfText 12 = .ok (.getfield 142, 3) := by decide +kernel
theorem dX5_widthOfText_15 : decode cX5_widthOfText 15 = .ok (.if_icmp .ge 29, 3) := by decide +kernel
theorem dX5_widthOfText_18 : decode cX5_widthOfText 18 = .ok (.iload_n 1, 1) := by decide +kernel
theorem dX5_widthOfText_19 : decode cX5_widthOfText 19 = .ok (.aload_n 0, 1) := by decide +kernel
theorem dX5_widthOfText_20 : decode cX5_widthOfText 20 = .ok (.iload_n 2, 1) := by decide +kernel
theorem dX5_widthOfText_21 : decode cX5_widthOfText 21 = .ok (.invokevirtual 192, 3) := by decide +kernel
theorem dX5_widthOfText_24 : decode cX5_widthOfText 24 = .ok (.aload_n 0, 1) := by decide +kernel
theorem dX5_widthOfText_25 : decode cX5_widthOfText 25 = .ok (.getfield 7, 3) := by decide +kernel
theorem dX5_widthOfText_28 : decode cX5_widthOfText 28 = .ok (.iconst 3, 1) := by decide +kernel
theorem dX5_widthOfText_29 : decode cX5_widthOfText 29 = .ok (.iaload, 1) := by decide +kernel
theorem dX5_widthOfText_30 : decode cX5_widthOfText 30 = .ok (.iadd, 1) := by decide +kernel
theorem dX5_widthOfText_31 : decode cX5_widthOfText 31 = .ok (.iadd, 1) := by decide +kernel
theorem dX5_widthOfText_32 : decode cX5_widthOfText 32 = .ok (.istore_n 1, 1) := by decide +kernel
theorem dX5_widthOfText_33 : decode cX5_widthOfText 33 = .ok (.aload_n 0, 1) := by decide +kernel
theorem dX5_widthOfText_34 : decode cX5_widthOfText 34 = .ok (.iload_n 2, 1) := by decide +kernel
theorem dX5_widthOfText_35 : decode cX5_widthOfText 35 = .ok (.invokevirtual 195, 3) := by decide +kernel
theorem dX5_widthOfText_38 : decode cX5_widthOfText 38 = .ok (.iconst 1, 1) := by decide +kernel
theorem dX5_widthOfText_39 : decode cX5_widthOfText 39 = .ok (.iadd, 1) := by decide +kernel
theorem dX5_widthOfText_40 : decode cX5_widthOfText 40 = .ok (.istore_n 2, 1) := by decide +kernel
theorem dX5_widthOfText_41 : decode cX5_widthOfText 41 = .ok (.goto (-31), 3) := by decide +kernel
theorem dX5_widthOfText_44 : decode cX5_widthOfText 44 = .ok (.iload_n 1, 1) := by decide +kernel
theorem dX5_widthOfText_45 : decode cX5_widthOfText 45 = .ok (.ireturn, 1) := by decide +kernel
theorem dX5_words_0 : decode cX5_words 0 = .ok (.iconst 0, 1) := by decide +kernel
theorem dX5_words_1 : decode cX5_words 1 = .ok (.istore_n 1, 1) := by decide +kernel
theorem dX5_words_2 : decode cX5_words 2 = .ok (.iconst 0, 1) := by decide +kernel
theorem dX5_words_3 : decode cX5_words 3 = .ok (.istore_n 2, 1) := by decide +kernel
theorem dX5_words_4 : decode cX5_words 4 = .ok (.iload_n 2, 1) := by decide +kernel
theorem dX5_words_5 : decode cX5_words 5 = .ok (.aload_n 0, 1) := by decide +kernel
theorem dX5_words_6 : decode cX5_words 6 = .ok (.getfield 142, 3) := by decide +kernel
theorem dX5_words_9 : decode cX5_words 9 = .ok (.if_icmp .ge 17, 3) := by decide +kernel
theorem dX5_words_12 : decode cX5_words 12 = .ok (.iinc 1 1, 3) := by decide +kernel
theorem dX5_words_15 : decode cX5_words 15 = .ok (.aload_n 0, 1) := by decide +kernel
theorem dX5_words_16 : decode cX5_words 16 = .ok (.iload_n 2, 1) := by decide +kernel
theorem dX5_words_17 : decode cX5_words 17 = .ok (.invokevirtual 195, 3) := by decide +kernel
theorem dX5_words_20 : decode cX5_words 20 = .ok (.iconst 1, 1) := by decide +kernel
theorem dX5_words_21 : decode cX5_words 21 = .ok (.iadd, 1) := by decide +kernel
theorem dX5_words_22 : decode cX5_words 22 = .ok (.istore_n 2, 1) := by decide +kernel
theorem dX5_words_23 : decode cX5_words 23 = .ok (.goto (-19), 3) := by decide +kernel
theorem dX5_words_26 : decode cX5_words 26 = .ok (.iload_n 1, 1) := by decide +kernel
theorem dX5_words_27 : decode cX5_words 27 = .ok (.ireturn, 1) := by decide +kernel
theorem dX5_widestWord_0 : decode cX5_widestWord 0 = .ok (.iconst 0, 1) := by decide +kernel
theorem dX5_widestWord_1 : decode cX5_widestWord 1 = .ok (.istore_n 1, 1) := by decide +kernel
theorem dX5_widestWord_2 : decode cX5_widestWord 2 = .ok (.iconst 0, 1) := by decide +kernel
theorem dX5_widestWord_3 : decode cX5_widestWord 3 = .ok (.istore_n 2, 1) := by decide +kernel
theorem dX5_widestWord_4 : decode cX5_widestWord 4 = .ok (.iload_n 2, 1) := by decide +kernel
theorem dX5_widestWord_5 : decode cX5_widestWord 5 = .ok (.aload_n 0, 1) := by decide +kernel
theorem dX5_widestWord_6 : decode cX5_widestWord 6 = .ok (.getfield 142, 3) := by decide +kernel
theorem dX5_widestWord_9 : decode cX5_widestWord 9 = .ok (.if_icmp .ge 33, 3) := by decide +kernel
theorem dX5_widestWord_12 : decode cX5_widestWord 12 = .ok (.aload_n 0, 1) := by decide +kernel
theorem dX5_widestWord_13 : decode cX5_widestWord 13 = .ok (.iload_n 2, 1) := by decide +kernel
theorem dX5_widestWord_14 : decode cX5_widestWord 14 = .ok (.invokevirtual 192, 3) := by decide +kernel
theorem dX5_widestWord_17 : decode cX5_widestWord 17 = .ok (.iload_n 1, 1) := by decide +kernel
theorem dX5_widestWord_18 : decode cX5_widestWord 18 = .ok (.if_icmp .le 11, 3) := by decide +kernel
theorem dX5_widestWord_21 : decode cX5_widestWord 21 = .ok (.aload_n 0, 1) := by decide +kernel
theorem dX5_widestWord_22 : decode cX5_widestWord 22 = .ok (.iload_n 2, 1) := by decide +kernel
theorem dX5_widestWord_23 : decode cX5_widestWord 23 = .ok (.invokevirtual 192, 3) := by decide +kernel
theorem dX5_widestWord_26 : decode cX5_widestWord 26 = .ok (.goto 4, 3) := by decide +kernel
theorem dX5_widestWord_29 : decode cX5_widestWord 29 = .ok (.iload_n 1, 1) := by decide +kernel
theorem dX5_widestWord_30 : decode cX5_widestWord 30 = .ok (.istore_n 1, 1) := by decide +kernel
theorem dX5_widestWord_31 : decode cX5_widestWord 31 = .ok (.aload_n 0, 1) := by decide +kernel
theorem dX5_widestWord_32 : decode cX5_widestWord 32 = .ok (.iload_n 2, 1) := by decide +kernel
theorem dX5_widestWord_33 : decode cX5_widestWord 33 = .ok (.invokevirtual 195, 3) := by decide +kernel
theorem dX5_widestWord_36 : decode cX5_widestWord 36 = .ok (.iconst 1, 1) := by decide +kernel
theorem dX5_widestWord_37 : decode cX5_widestWord 37 = .ok (.iadd, 1) := by decide +kernel
theorem dX5_widestWord_38 : decode cX5_widestWord 38 = .ok (.istore_n 2, 1) := by decide +kernel
theorem dX5_widestWord_39 : decode cX5_widestWord 39 = .ok (.goto (-35), 3) := by decide +kernel
theorem dX5_widestWord_42 : decode cX5_widestWord 42 = .ok (.iload_n 1, 1) := by decide +kernel
theorem dX5_widestWord_43 : decode cX5_widestWord 43 = .ok (.ireturn, 1) := by decide +kernel
theorem dX5_fewestLines_0 : decode cX5_fewestLines 0 = .ok (.iconst 0, 1) := by decide +kernel
theorem dX5_fewestLines_1 : decode cX5_fewestLines 1 = .ok (.istore_n 1, 1) := by decide +kernel
theorem dX5_fewestLines_2 : decode cX5_fewestLines 2 = .ok (.iconst 0, 1) := by decide +kernel
theorem dX5_fewestLines_3 : decode cX5_fewestLines 3 = .ok (.istore_n 2, 1) := by decide +kernel
theorem dX5_fewestLines_4 : decode cX5_fewestLines 4 = .ok (.iconst 0, 1) := by decide +kernel
theorem dX5_fewestLines_5 : decode cX5_fewestLines 5 = .ok (.istore_n 3, 1) := by decide +kernel
theorem dX5_fewestLines_6 : decode cX5_fewestLines 6 = .ok (.iload_n 3, 1) := by decide +kernel
theorem dX5_fewestLines_7 : decode cX5_fewestLines 7 = .ok (.aload_n 0, 1) := by decide +kernel
theorem dX5_fewestLines_8 : decode cX5_fewestLines 8 = .ok (.getfield 142, 3) := by decide +kernel
theorem dX5_fewestLines_11 : decode cX5_fewestLines 11 = .ok (.if_icmp .ge 81, 3) := by decide +kernel
theorem dX5_fewestLines_14 : decode cX5_fewestLines 14 = .ok (.iload_n 2, 1) := by decide +kernel
theorem dX5_fewestLines_15 : decode cX5_fewestLines 15 = .ok (.aload_n 0, 1) := by decide +kernel
theorem dX5_fewestLines_16 : decode cX5_fewestLines 16 = .ok (.getfield 7, 3) := by decide +kernel
theorem dX5_fewestLines_19 : decode cX5_fewestLines 19 = .ok (.iconst 3, 1) := by decide +kernel
theorem dX5_fewestLines_20 : decode cX5_fewestLines 20 = .ok (.iaload, 1) := by decide +kernel
theorem dX5_fewestLines_21 : decode cX5_fewestLines 21 = .ok (.iadd, 1) := by decide +kernel
theorem dX5_fewestLines_22 : decode cX5_fewestLines 22 = .ok (.aload_n 0, 1) := by decide +kernel
theorem dX5_fewestLines_23 : decode cX5_fewestLines 23 = .ok (.iload_n 3, 1) := by decide +kernel
theorem dX5_fewestLines_24 : decode cX5_fewestLines 24 = .ok (.invokevirtual 192, 3) := by decide +kernel
theorem dX5_fewestLines_27 : decode cX5_fewestLines 27 = .ok (.iadd, 1) := by decide +kernel
theorem dX5_fewestLines_28 : decode cX5_fewestLines 28 = .ok (.istore 4, 2) := by decide +kernel
theorem dX5_fewestLines_30 : decode cX5_fewestLines 30 = .ok (.iload_n 1, 1) := by decide +kernel
theorem dX5_fewestLines_31 : decode cX5_fewestLines 31 = .ok (.ifCond .eq 14, 3) := by decide +kernel
theorem dX5_fewestLines_34 : decode cX5_fewestLines 34 = .ok (.iload 4, 2) := by decide +kernel
theorem dX5_fewestLines_36 : decode cX5_fewestLines 36 = .ok (.aload_n 0, 1) := by decide +kernel
theorem dX5_fewestLines_37 : decode cX5_fewestLines 37 = .ok (.getfield 7, 3) := by decide +kernel
theorem dX5_fewestLines_40 : decode cX5_fewestLines 40 = .ok (.iconst 4, 1) := by decide +kernel
theorem dX5_fewestLines_41 : decode cX5_fewestLines 41 = .ok (.iaload, 1) := by decide +kernel
theorem dX5_fewestLines_42 : decode cX5_fewestLines 42 = .ok (.if_icmp .le 7, 3) := by decide +kernel
theorem dX5_fewestLines_45 : decode cX5_fewestLines 45 = .ok (.iconst 1, 1) := by decide +kernel
theorem dX5_fewestLines_46 : decode cX5_fewestLines 46 = .ok (.goto 4, 3) := by decide +kernel
theorem dX5_fewestLines_49 : decode cX5_fewestLines 49 = .ok (.iconst 0, 1) := by decide +kernel
theorem dX5_fewestLines_50 : decode cX5_fewestLines 50 = .ok (.istore 5, 2) := by decide +kernel
theorem dX5_fewestLines_52 : decode cX5_fewestLines 52 = .ok (.iload_n 1, 1) := by decide +kernel
theorem dX5_fewestLines_53 : decode cX5_fewestLines 53 = .ok (.iload 5, 2) := by decide +kernel
theorem dX5_fewestLines_55 : decode cX5_fewestLines 55 = .ok (.ifCond .eq 7, 3) := by decide +kernel
theorem dX5_fewestLines_58 : decode cX5_fewestLines 58 = .ok (.iconst 1, 1) := by decide +kernel
theorem dX5_fewestLines_59 : decode cX5_fewestLines 59 = .ok (.goto 4, 3) := by decide +kernel
theorem dX5_fewestLines_62 : decode cX5_fewestLines 62 = .ok (.iconst 0, 1) := by decide +kernel
theorem dX5_fewestLines_63 : decode cX5_fewestLines 63 = .ok (.iadd, 1) := by decide +kernel
theorem dX5_fewestLines_64 : decode cX5_fewestLines 64 = .ok (.istore_n 1, 1) := by decide +kernel
theorem dX5_fewestLines_65 : decode cX5_fewestLines 65 = .ok (.iload 5, 2) := by decide +kernel
theorem dX5_fewestLines_67 : decode cX5_fewestLines 67 = .ok (.ifCond .eq 11, 3) := by decide +kernel
theorem dX5_fewestLines_70 : decode cX5_fewestLines 70 = .ok (.aload_n 0, 1) := by decide +kernel
theorem dX5_fewestLines_71 : decode cX5_fewestLines 71 = .ok (.iload_n 3, 1) := by decide +kernel
theorem dX5_fewestLines_72 : decode cX5_fewestLines 72 = .ok (.invokevirtual 192, 3) := by decide +kernel
theorem dX5_fewestLines_75 : decode cX5_fewestLines 75 = .ok (.goto 5, 3) := by decide +kernel
theorem dX5_fewestLines_78 : decode cX5_fewestLines 78 = .ok (.iload 4, 2) := by decide +kernel
theorem dX5_fewestLines_80 : decode cX5_fewestLines 80 = .ok (.istore_n 2, 1) := by decide +kernel
theorem dX5_fewestLines_81 : decode cX5_fewestLines 81 = .ok (.aload_n 0, 1) := by decide +kernel
theorem dX5_fewestLines_82 : decode cX5_fewestLines 82 = .ok (.iload_n 3, 1) := by decide +kernel
theorem dX5_fewestLines_83 : decode cX5_fewestLines 83 = .ok (.invokevirtual 195, 3) := by decide +kernel
theorem dX5_fewestLines_86 : decode cX5_fewestLines 86 = .ok (.iconst 1, 1) := by decide +kernel
theorem dX5_fewestLines_87 : decode cX5_fewestLines 87 = .ok (.iadd, 1) := by decide +kernel
theorem dX5_fewestLines_88 : decode cX5_fewestLines 88 = .ok (.istore_n 3, 1) := by decide +kernel
theorem dX5_fewestLines_89 : decode cX5_fewestLines 89 = .ok (.goto (-83), 3) := by decide +kernel
theorem dX5_fewestLines_92 : decode cX5_fewestLines 92 = .ok (.iload_n 1, 1) := by decide +kernel
theorem dX5_fewestLines_93 : decode cX5_fewestLines 93 = .ok (.ireturn, 1) := by decide +kernel
theorem dX5_textTold_0 : decode cX5_textTold 0 = .ok (.aload_n 0, 1) := by decide +kernel
theorem dX5_textTold_1 : decode cX5_textTold 1 = .ok (.invokevirtual 151, 3) := by decide +kernel
theorem dX5_textTold_4 : decode cX5_textTold 4 = .ok (.ifCond .ne 5, 3) := by decide +kernel
theorem dX5_textTold_7 : decode cX5_textTold 7 = .ok (.iconst (-1), 1) := by decide +kernel
theorem dX5_textTold_8 : decode cX5_textTold 8 = .ok (.ireturn, 1) := by decide +kernel
theorem dX5_textTold_9 : decode cX5_textTold 9 = .ok (.iload_n 1, 1) := by decide +kernel
theorem dX5_textTold_10 : decode cX5_textTold 10 = .ok (.tableswitch 45 0 3 #[30, 30, 35, 40], 30) := by decide +kernel
theorem dX5_textTold_40 : decode cX5_textTold 40 = .ok (.aload_n 0, 1) := by decide +kernel
theorem dX5_textTold_41 : decode cX5_textTold 41 = .ok (.invokevirtual 198, 3) := by decide +kernel
theorem dX5_textTold_44 : decode cX5_textTold 44 = .ok (.ireturn, 1) := by decide +kernel
theorem dX5_textTold_45 : decode cX5_textTold 45 = .ok (.aload_n 0, 1) := by decide +kernel
theorem dX5_textTold_46 : decode cX5_textTold 46 = .ok (.invokevirtual 201, 3) := by decide +kernel
theorem dX5_textTold_49 : decode cX5_textTold 49 = .ok (.ireturn, 1) := by decide +kernel
theorem dX5_textTold_50 : decode cX5_textTold 50 = .ok (.aload_n 0, 1) := by decide +kernel
theorem dX5_textTold_51 : decode cX5_textTold 51 = .ok (.invokevirtual 204, 3) := by decide +kernel
theorem dX5_textTold_54 : decode cX5_textTold 54 = .ok (.ireturn, 1) := by decide +kernel
theorem dX5_textTold_55 : decode cX5_textTold 55 = .ok (.aload_n 0, 1) := by decide +kernel
theorem dX5_textTold_56 : decode cX5_textTold 56 = .ok (.invokevirtual 207, 3) := by decide +kernel
theorem dX5_textTold_59 : decode cX5_textTold 59 = .ok (.ireturn, 1) := by decide +kernel
theorem dX5_text_0 : decode cX5_text 0 = .ok (.aload_n 0, 1) := by decide +kernel
theorem dX5_text_1 : decode cX5_text 1 = .ok (.iload_n 1, 1) := by decide +kernel
theorem dX5_text_2 : decode cX5_text 2 = .ok (.iconst 0, 1) := by decide +kernel
theorem dX5_text_3 : decode cX5_text 3 = .ok (.iconst 5, 1) := by decide +kernel
theorem dX5_text_4 : decode cX5_text 4 = .ok (.invokestatic 58, 3) := by decide +kernel
theorem dX5_text_7 : decode cX5_text 7 = .ok (.ifCond .eq 7, 3) := by decide +kernel
theorem dX5_text_10 : decode cX5_text 10 = .ok (.iconst 0, 1) := by decide +kernel
theorem dX5_text_11 : decode cX5_text 11 = .ok (.goto 4, 3) := by decide +kernel
theorem dX5_text_14 : decode cX5_text 14 = .ok (.iconst 1, 1) := by decide +kernel
theorem dX5_text_15 : decode cX5_text 15 = .ok (.invokevirtual 118, 3) := by decide +kernel
theorem dX5_text_18 : decode cX5_text 18 = .ok (.ifCond .ne 5, 3) := by decide +kernel
theorem dX5_text_21 : decode cX5_text 21 = .ok (.iconst 0, 1) := by decide +kernel
theorem dX5_text_22 : decode cX5_text 22 = .ok (.ireturn, 1) := by decide +kernel
theorem dX5_text_23 : decode cX5_text 23 = .ok (.aload_n 0, 1) := by decide +kernel
theorem dX5_text_24 : decode cX5_text 24 = .ok (.invokevirtual 98, 3) := by decide +kernel
theorem dX5_text_27 : decode cX5_text 27 = .ok (.aload_n 0, 1) := by decide +kernel
theorem dX5_text_28 : decode cX5_text 28 = .ok (.iload_n 1, 1) := by decide +kernel
theorem dX5_text_29 : decode cX5_text 29 = .ok (.invokevirtual 210, 3) := by decide +kernel
theorem dX5_text_32 : decode cX5_text 32 = .ok (.ireturn, 1) := by decide +kernel
theorem dX5_ifCircled_0 : decode cX5_ifCircled 0 = .ok (.aload_n 0, 1) := by decide +kernel
theorem dX5_ifCircled_1 : decode cX5_ifCircled 1 = .ok (.iload_n 1, 1) := by decide +kernel
theorem dX5_ifCircled_2 : decode cX5_ifCircled 2 = .ok (.invokestatic 114, 3) := by decide +kernel
theorem dX5_ifCircled_5 : decode cX5_ifCircled 5 = .ok (.ifCond .eq 10, 3) := by decide +kernel
theorem dX5_ifCircled_8 : decode cX5_ifCircled 8 = .ok (.iload_n 2, 1) := by decide +kernel
theorem dX5_ifCircled_9 : decode cX5_ifCircled 9 = .ok (.invokestatic 114, 3) := by decide +kernel
theorem dX5_ifCircled_12 : decode cX5_ifCircled 12 = .ok (.ifCond .ne 7, 3) := by decide +kernel
theorem dX5_ifCircled_15 : decode cX5_ifCircled 15 = .ok (.iconst 1, 1) := by decide +kernel
theorem dX5_ifCircled_16 : decode cX5_ifCircled 16 = .ok (.goto 15, 3) := by decide +kernel
theorem dX5_ifCircled_19 : decode cX5_ifCircled 19 = .ok (.iload_n 3, 1) := by decide +kernel
theorem dX5_ifCircled_20 : decode cX5_ifCircled 20 = .ok (.invokestatic 130, 3) := by decide +kernel
theorem dX5_ifCircled_23 : decode cX5_ifCircled 23 = .ok (.ifCond .ne 7, 3) := by decide +kernel
theorem dX5_ifCircled_26 : decode cX5_ifCircled 26 = .ok (.iconst 2, 1) := by decide +kernel
theorem dX5_ifCircled_27 : decode cX5_ifCircled 27 = .ok (.goto 4, 3) := by decide +kernel
theorem dX5_ifCircled_30 : decode cX5_ifCircled 30 = .ok (.iconst 0, 1) := by decide +kernel
theorem dX5_ifCircled_31 : decode cX5_ifCircled 31 = .ok (.invokevirtual 118, 3) := by decide +kernel
theorem dX5_ifCircled_34 : decode cX5_ifCircled 34 = .ok (.ifCond .ne 5, 3) := by decide +kernel
theorem dX5_ifCircled_37 : decode cX5_ifCircled 37 = .ok (.iconst 0, 1) := by decide +kernel
theorem dX5_ifCircled_38 : decode cX5_ifCircled 38 = .ok (.ireturn, 1) := by decide +kernel
theorem dX5_ifCircled_39 : decode cX5_ifCircled 39 = .ok (.aload_n 0, 1) := by decide +kernel
theorem dX5_ifCircled_40 : decode cX5_ifCircled 40 = .ok (.getfield 7, 3) := by decide +kernel
theorem dX5_ifCircled_43 : decode cX5_ifCircled 43 = .ok (.iconst 0, 1) := by decide +kernel
theorem dX5_ifCircled_44 : decode cX5_ifCircled 44 = .ok (.aload_n 0, 1) := by decide +kernel
theorem dX5_ifCircled_45 : decode cX5_ifCircled 45 = .ok (.getfield 23, 3) := by decide +kernel
theorem dX5_ifCircled_48 : decode cX5_ifCircled 48 = .ok (.iconst 0, 1) := by decide +kernel
theorem dX5_ifCircled_49 : decode cX5_ifCircled 49 = .ok (.invokestatic 69, 3) := by decide +kernel
theorem dX5_ifCircled_52 : decode cX5_ifCircled 52 = .ok (.aload_n 0, 1) := by decide +kernel
theorem dX5_ifCircled_53 : decode cX5_ifCircled 53 = .ok (.bipush 10, 2) := by decide +kernel
theorem dX5_ifCircled_55 : decode cX5_ifCircled 55 = .ok (.iload_n 1, 1) := by decide +kernel
theorem dX5_ifCircled_56 : decode cX5_ifCircled 56 = .ok (.imul, 1) := by decide +kernel
theorem dX5_ifCircled_57 : decode cX5_ifCircled 57 = .ok (.iload_n 2, 1) := by decide +kernel
theorem dX5_ifCircled_58 : decode cX5_ifCircled 58 = .ok (.iadd, 1) := by decide +kernel
theorem dX5_ifCircled_59 : decode cX5_ifCircled 59 = .ok (.iload_n 3, 1) := by decide +kernel
theorem dX5_ifCircled_60 : decode cX5_ifCircled 60 = .ok (.invokevirtual 133, 3) := by decide +kernel
theorem dX5_ifCircled_63 : decode cX5_ifCircled 63 = .ok (.istore 4, 2) := by decide +kernel
theorem dX5_ifCircled_65 : decode cX5_ifCircled 65 = .ok (.aload_n 0, 1) := by decide +kernel
theorem dX5_ifCircled_66 : decode cX5_ifCircled 66 = .ok (.getfield 23, 3) := by decide +kernel
theorem dX5_ifCircled_69 : decode cX5_ifCircled 69 = .ok (.iconst 0, 1) := by decide +kernel
theorem dX5_ifCircled_70 : decode cX5_ifCircled 70 = .ok (.aload_n 0, 1) := by decide +kernel
theorem dX5_ifCircled_71 : decode cX5_ifCircled 71 = .ok (.getfield 7, 3) := by decide +kernel
theorem dX5_ifCircled_74 : decode cX5_ifCircled 74 = .ok (.iconst 0, 1) := by decide +kernel
theorem dX5_ifCircled_75 : decode cX5_ifCircled 75 = .ok (.invokestatic 69, 3) := by decide +kernel
theorem dX5_ifCircled_78 : decode cX5_ifCircled 78 = .ok (.iload 4, 2) := by decide +kernel
theorem dX5_ifCircled_80 : decode cX5_ifCircled 80 = .ok (.ireturn, 1) := by decide +kernel
theorem dX5_without_0 : decode cX5_without 0 = .ok (.aload_n 0, 1) := by decide +kernel
theorem dX5_without_1 : decode cX5_without 1 = .ok (.getfield 7, 3) := by decide +kernel
theorem dX5_without_4 : decode cX5_without 4 = .ok (.iconst 0, 1) := by decide +kernel
theorem dX5_without_5 : decode cX5_without 5 = .ok (.aload_n 0, 1) := by decide +kernel
theorem dX5_without_6 : decode cX5_without 6 = .ok (.getfield 23, 3) := by decide +kernel
theorem dX5_without_9 : decode cX5_without 9 = .ok (.iconst 0, 1) := by decide +kernel
theorem dX5_without_10 : decode cX5_without 10 = .ok (.invokestatic 69, 3) := by decide +kernel
theorem dX5_without_13 : decode cX5_without 13 = .ok (.aload_n 0, 1) := by decide +kernel
theorem dX5_without_14 : decode cX5_without 14 = .ok (.iload_n 1, 1) := by decide +kernel
theorem dX5_without_15 : decode cX5_without 15 = .ok (.invokevirtual 139, 3) := by decide +kernel
theorem dX5_without_18 : decode cX5_without 18 = .ok (.istore_n 2, 1) := by decide +kernel
theorem dX5_without_19 : decode cX5_without 19 = .ok (.aload_n 0, 1) := by decide +kernel
theorem dX5_without_20 : decode cX5_without 20 = .ok (.getfield 23, 3) := by decide +kernel
theorem dX5_without_23 : decode cX5_without 23 = .ok (.iconst 0, 1) := by decide +kernel
theorem dX5_without_24 : decode cX5_without 24 = .ok (.aload_n 0, 1) := by decide +kernel
theorem dX5_without_25 : decode cX5_without 25 = .ok (.getfield 7, 3) := by decide +kernel
theorem dX5_without_28 : decode cX5_without 28 = .ok (.iconst 0, 1) := by decide +kernel
theorem dX5_without_29 : decode cX5_without 29 = .ok (.invokestatic 69, 3) := by decide +kernel
theorem dX5_without_32 : decode cX5_without 32 = .ok (.iload_n 2, 1) := by decide +kernel
theorem dX5_without_33 : decode cX5_without 33 = .ok (.ireturn, 1) := by decide +kernel
theorem dX5_ifForgotten_0 : decode cX5_ifForgotten 0 = .ok (.aload_n 0, 1) := by decide +kernel
theorem dX5_ifForgotten_1 : decode cX5_ifForgotten 1 = .ok (.aload_n 0, 1) := by decide +kernel
theorem dX5_ifForgotten_2 : decode cX5_ifForgotten 2 = .ok (.iload_n 1, 1) := by decide +kernel
theorem dX5_ifForgotten_3 : decode cX5_ifForgotten 3 = .ok (.invokevirtual 136, 3) := by decide +kernel
theorem dX5_ifForgotten_6 : decode cX5_ifForgotten 6 = .ok (.ifCond .eq 7, 3) := by decide +kernel
theorem dX5_ifForgotten_9 : decode cX5_ifForgotten 9 = .ok (.iconst 0, 1) := by decide +kernel
theorem dX5_ifForgotten_10 : decode cX5_ifForgotten 10 = .ok (.goto 4, 3) := by decide +kernel
theorem dX5_ifForgotten_13 : decode cX5_ifForgotten 13 = .ok (.iconst 1, 1) := by decide +kernel
theorem dX5_ifForgotten_14 : decode cX5_ifForgotten 14 = .ok (.invokevirtual 118, 3) := by decide +kernel
theorem dX5_ifForgotten_17 : decode cX5_ifForgotten 17 = .ok (.ifCond .eq 11, 3) := by decide +kernel
theorem dX5_ifForgotten_20 : decode cX5_ifForgotten 20 = .ok (.aload_n 0, 1) := by decide +kernel
theorem dX5_ifForgotten_21 : decode cX5_ifForgotten 21 = .ok (.iload_n 1, 1) := by decide +kernel
theorem dX5_ifForgotten_22 : decode cX5_ifForgotten 22 = .ok (.invokevirtual 213, 3) := by decide +kernel
theorem dX5_ifForgotten_25 : decode cX5_ifForgotten 25 = .ok (.goto 4, 3) := by decide +kernel
theorem dX5_ifForgotten_28 : decode cX5_ifForgotten 28 = .ok (.iconst 0, 1) := by decide +kernel
theorem dX5_ifForgotten_29 : decode cX5_ifForgotten 29 = .ok (.ireturn, 1) := by decide +kernel
theorem dX5_mainTold_0 : decode cX5_mainTold 0 = .ok (.iconst (-1), 1) := by decide +kernel
theorem dX5_mainTold_1 : decode cX5_mainTold 1 = .ok (.istore_n 1, 1) := by decide +kernel
theorem dX5_mainTold_2 : decode cX5_mainTold 2 = .ok (.iconst (-1), 1) := by decide +kernel
theorem dX5_mainTold_3 : decode cX5_mainTold 3 = .ok (.istore_n 2, 1) := by decide +kernel
theorem dX5_mainTold_4 : decode cX5_mainTold 4 = .ok (.iconst 0, 1) := by decide +kernel
theorem dX5_mainTold_5 : decode cX5_mainTold 5 = .ok (.istore_n 3, 1) := by decide +kernel
theorem dX5_mainTold_6 : decode cX5_mainTold 6 = .ok (.iload_n 3, 1) := by decide +kernel
theorem dX5_mainTold_7 : decode cX5_mainTold 7 = .ok (.aload_n 0, 1) := by decide +kernel
theorem dX5_mainTold_8 : decode cX5_mainTold 8 = .ok (.getfield 7, 3) := by decide +kernel
theorem dX5_mainTold_11 : decode cX5_mainTold 11 = .ok (.iconst 0, 1) := by decide +kernel
theorem dX5_mainTold_12 : decode cX5_mainTold 12 = .ok (.iaload, 1) := by decide +kernel
theorem dX5_mainTold_13 : decode cX5_mainTold 13 = .ok (.if_icmp .ge 41, 3) := by decide +kernel
theorem dX5_mainTold_16 : decode cX5_mainTold 16 = .ok (.aload_n 0, 1) := by decide +kernel
theorem dX5_mainTold_17 : decode cX5_mainTold 17 = .ok (.iload_n 3, 1) := by decide +kernel
theorem dX5_mainTold_18 : decode cX5_mainTold 18 = .ok (.invokevirtual 213, 3) := by decide +kernel
theorem dX5_mainTold_21 : decode cX5_mainTold 21 = .ok (.istore 4, 2) := by decide +kernel
theorem dX5_mainTold_23 : decode cX5_mainTold 23 = .ok (.iload 4, 2) := by decide +kernel
theorem dX5_mainTold_25 : decode cX5_mainTold 25 = .ok (.iload_n 2, 1) := by decide +kernel
theorem dX5_mainTold_26 : decode cX5_mainTold 26 = .ok (.if_icmp .le 7, 3) := by decide +kernel
theorem dX5_mainTold_29 : decode cX5_mainTold 29 = .ok (.iload_n 3, 1) := by decide +kernel
theorem dX5_mainTold_30 : decode cX5_mainTold 30 = .ok (.goto 4, 3) := by decide +kernel
theorem dX5_mainTold_33 : decode cX5_mainTold 33 = .ok (.iload_n 1, 1) := by decide +kernel
theorem dX5_mainTold_34 : decode cX5_mainTold 34 = .ok (.istore_n 1, 1) := by decide +kernel
theorem dX5_mainTold_35 : decode cX5_mainTold 35 = .ok (.iload 4, 2) := by decide +kernel
theorem dX5_mainTold_37 : decode cX5_mainTold 37 = .ok (.iload_n 2, 1) := by decide +kernel
theorem dX5_mainTold_38 : decode cX5_mainTold 38 = .ok (.if_icmp .le 8, 3) := by decide +kernel
theorem dX5_mainTold_41 : decode cX5_mainTold 41 = .ok (.iload 4, 2) := by decide +kernel
theorem dX5_mainTold_43 : decode cX5_mainTold 43 = .ok (.goto 4, 3) := by decide +kernel
theorem dX5_mainTold_46 : decode cX5_mainTold 46 = .ok (.iload_n 2, 1) := by decide +kernel
theorem dX5_mainTold_47 : decode cX5_mainTold 47 = .ok (.istore_n 2, 1) := by decide +kernel
theorem dX5_mainTold_48 : decode cX5_mainTold 48 = .ok (.iinc 3 1, 3) := by decide +kernel
theorem dX5_mainTold_51 : decode cX5_mainTold 51 = .ok (.goto (-45), 3) := by decide +kernel
theorem dX5_mainTold_54 : decode cX5_mainTold 54 = .ok (.iload_n 1, 1) := by decide +kernel
theorem dX5_mainTold_55 : decode cX5_mainTold 55 = .ok (.ireturn, 1) := by decide +kernel
theorem dX5_mainLesson_0 : decode cX5_mainLesson 0 = .ok (.aload_n 0, 1) := by decide +kernel
theorem dX5_mainLesson_1 : decode cX5_mainLesson 1 = .ok (.iconst 0, 1) := by decide +kernel
theorem dX5_mainLesson_2 : decode cX5_mainLesson 2 = .ok (.putfield 54, 3) := by decide +kernel
theorem dX5_mainLesson_5 : decode cX5_mainLesson 5 = .ok (.aload_n 0, 1) := by decide +kernel
theorem dX5_mainLesson_6 : decode cX5_mainLesson 6 = .ok (.invokevirtual 216, 3) := by decide +kernel
theorem dX5_mainLesson_9 : decode cX5_mainLesson 9 = .ok (.ireturn, 1) := by decide +kernel
theorem dX5_shareTold_0 : decode cX5_shareTold 0 = .ok (.iconst 0, 1) := by decide +kernel
theorem dX5_shareTold_1 : decode cX5_shareTold 1 = .ok (.istore_n 1, 1) := by decide +kernel
theorem dX5_shareTold_2 : decode cX5_shareTold 2 = .ok (.iconst 0, 1) := by decide +kernel
theorem dX5_shareTold_3 : decode cX5_shareTold 3 = .ok (.istore_n 2, 1) := by decide +kernel
theorem dX5_shareTold_4 : decode cX5_shareTold 4 = .ok (.iload_n 2, 1) := by decide +kernel
theorem dX5_shareTold_5 : decode cX5_shareTold 5 = .ok (.bipush 100, 2) := by decide +kernel
theorem dX5_shareTold_7 : decode cX5_shareTold 7 = .ok (.if_icmp .ge 25, 3) := by decide +kernel
theorem dX5_shareTold_10 : decode cX5_shareTold 10 = .ok (.iload_n 1, 1) := by decide +kernel
theorem dX5_shareTold_11 : decode cX5_shareTold 11 = .ok (.aload_n 0, 1) := by decide +kernel
theorem dX5_shareTold_12 : decode cX5_shareTold 12 = .ok (.iload_n 2, 1) := by decide +kernel
theorem dX5_shareTold_13 : decode cX5_shareTold 13 = .ok (.invokevirtual 77, 3) := by decide +kernel
theorem dX5_shareTold_16 : decode cX5_shareTold 16 = .ok (.ifCond .ge 7, 3) := by decide +kernel
theorem dX5_shareTold_19 : decode cX5_shareTold 19 = .ok (.iconst 1, 1) := by decide +kernel
theorem dX5_shareTold_20 : decode cX5_shareTold 20 = .ok (.goto 4, 3) := by decide +kernel
theorem dX5_shareTold_23 : decode cX5_shareTold 23 = .ok (.iconst 0, 1) := by decide +kernel
theorem dX5_shareTold_24 : decode cX5_shareTold 24 = .ok (.iadd, 1) := by decide +kernel
theorem dX5_shareTold_25 : decode cX5_shareTold 25 = .ok (.istore_n 1, 1) := by decide +kernel
theorem dX5_shareTold_26 : decode cX5_shareTold 26 = .ok (.iinc 2 1, 3) := by decide +kernel
theorem dX5_shareTold_29 : decode cX5_shareTold 29 = .ok (.goto (-25), 3) := by decide +kernel
theorem dX5_shareTold_32 : decode cX5_shareTold 32 = .ok (.iload_n 1, 1) := by decide +kernel
theorem dX5_shareTold_33 : decode cX5_shareTold 33 = .ok (.i2d, 1) := by decide +kernel
theorem dX5_shareTold_34 : decode cX5_shareTold 34 = .ok (.ldc2_w 219, 3) := by decide +kernel
theorem dX5_shareTold_37 : decode cX5_shareTold 37 = .ok (.ddiv, 1) := by decide +kernel
theorem dX5_shareTold_38 : decode cX5_shareTold 38 = .ok (.dreturn, 1) := by decide +kernel
theorem dX5_tightShare_0 : decode cX5_tightShare 0 = .ok (.aload_n 0, 1) := by decide +kernel
theorem dX5_tightShare_1 : decode cX5_tightShare 1 = .ok (.iconst 0, 1) := by decide +kernel
theorem dX5_tightShare_2 : decode cX5_tightShare 2 = .ok (.putfield 54, 3) := by decide +kernel
theorem dX5_tightShare_5 : decode cX5_tightShare 5 = .ok (.aload_n 0, 1) := by decide +kernel
theorem dX5_tightShare_6 : decode cX5_tightShare 6 = .ok (.invokevirtual 98, 3) := by decide +kernel
theorem dX5_tightShare_9 : decode cX5_tightShare 9 = .ok (.aload_n 0, 1) := by decide +kernel
theorem dX5_tightShare_10 : decode cX5_tightShare 10 = .ok (.invokevirtual 221, 3) := by decide +kernel
theorem dX5_tightShare_13 : decode cX5_tightShare 13 = .ok (.dreturn, 1) := by decide +kernel
theorem dX5_bitsOf_0 : decode cX5_bitsOf 0 = .ok (.dload_n 0, 1) := by decide +kernel
theorem dX5_bitsOf_1 : decode cX5_bitsOf 1 = .ok (.dconst 0, 1) := by decide +kernel
theorem dX5_bitsOf_2 : decode cX5_bitsOf 2 = .ok (.dcmp .l, 1) := by decide +kernel
theorem dX5_bitsOf_3 : decode cX5_bitsOf 3 = .ok (.ifCond .ne 5, 3) := by decide +kernel
theorem dX5_bitsOf_6 : decode cX5_bitsOf 6 = .ok (.lconst 0, 1) := by decide +kernel
theorem dX5_bitsOf_7 : decode cX5_bitsOf 7 = .ok (.lreturn, 1) := by decide +kernel
theorem dX5_bitsOf_8 : decode cX5_bitsOf 8 = .ok (.ldc2_w 225, 3) := by decide +kernel
theorem dX5_bitsOf_11 : decode cX5_bitsOf 11 = .ok (.lstore_n 2, 1) := by decide +kernel
theorem dX5_bitsOf_12 : decode cX5_bitsOf 12 = .ok (.dload_n 0, 1) := by decide +kernel
theorem dX5_bitsOf_13 : decode cX5_bitsOf 13 = .ok (.dstore 4, 2) := by decide +kernel
theorem dX5_bitsOf_15 : decode cX5_bitsOf 15 = .ok (.dload 4, 2) := by decide +kernel
theorem dX5_bitsOf_17 : decode cX5_bitsOf 17 = .ok (.dconst 1, 1) := by decide +kernel
theorem dX5_bitsOf_18 : decode cX5_bitsOf 18 = .ok (.dcmp .g, 1) := by decide +kernel
theorem dX5_bitsOf_19 : decode cX5_bitsOf 19 = .ok (.ifCond .ge 18, 3) := by decide +kernel
theorem dX5_bitsOf_22 : decode cX5_bitsOf 22 = .ok (.dload 4, 2) := by decide +kernel
theorem dX5_bitsOf_24 : decode cX5_bitsOf 24 = .ok (.ldc2_w 227, 3) := by decide +kernel
theorem dX5_bitsOf_27 : decode cX5_bitsOf 27 = .ok (.dmul, 1) := by decide +kernel
theorem dX5_bitsOf_28 : decode cX5_bitsOf 28 = .ok (.dstore 4, 2) := by decide +kernel
theorem dX5_bitsOf_30 : decode cX5_bitsOf 30 = .ok (.lload_n 2, 1) := by decide +kernel
theorem dX5_bitsOf_31 : decode cX5_bitsOf 31 = .ok (.lconst 1, 1) := by decide +kernel
theorem dX5_bitsOf_32 : decode cX5_bitsOf 32 = .ok (.lsub, 1) := by decide +kernel
theorem dX5_bitsOf_33 : decode cX5_bitsOf 33 = .ok (.lstore_n 2, 1) := by decide +kernel
theorem dX5_bitsOf_34 : decode cX5_bitsOf 34 = .ok (.goto (-19), 3) := by decide +kernel
theorem dX5_bitsOf_37 : decode cX5_bitsOf 37 = .ok (.lload_n 2, 1) := by decide +kernel
theorem dX5_bitsOf_38 : decode cX5_bitsOf 38 = .ok (.ldc2_w 229, 3) := by decide +kernel
theorem dX5_bitsOf_41 : decode cX5_bitsOf 41 = .ok (.lmul, 1) := by decide +kernel
theorem dX5_bitsOf_42 : decode cX5_bitsOf 42 = .ok (.dload 4, 2) := by decide +kernel
theorem dX5_bitsOf_44 : decode cX5_bitsOf 44 = .ok (.dconst 1, 1) := by decide +kernel
theorem dX5_bitsOf_45 : decode cX5_bitsOf 45 = .ok (.dsub, 1) := by decide +kernel
theorem dX5_bitsOf_46 : decode cX5_bitsOf 46 = .ok (.ldc2_w 231, 3) := by decide +kernel
theorem dX5_bitsOf_49 : decode cX5_bitsOf 49 = .ok (.dmul, 1) := by decide +kernel
theorem dX5_bitsOf_50 : decode cX5_bitsOf 50 = .ok (.d2l, 1) := by decide +kernel
theorem dX5_bitsOf_51 : decode cX5_bitsOf 51 = .ok (.ladd, 1) := by decide +kernel
theorem dX5_bitsOf_52 : decode cX5_bitsOf 52 = .ok (.lreturn, 1) := by decide +kernel
theorem dX5_mix_0 : decode cX5_mix 0 = .ok (.aload_n 0, 1) := by decide +kernel
theorem dX5_mix_1 : decode cX5_mix 1 = .ok (.ldc2_w 233, 3) := by decide +kernel
theorem dX5_mix_4 : decode cX5_mix 4 = .ok (.aload_n 0, 1) := by decide +kernel
theorem dX5_mix_5 : decode cX5_mix 5 = .ok (.getfield 235, 3) := by decide +kernel
theorem dX5_mix_8 : decode cX5_mix 8 = .ok (.lmul, 1) := by decide +kernel
theorem dX5_mix_9 : decode cX5_mix 9 = .ok (.lload_n 1, 1) := by decide +kernel
theorem dX5_mix_10 : decode cX5_mix 10 = .ok (.ladd, 1) := by decide +kernel
theorem dX5_mix_11 : decode cX5_mix 11 = .ok (.putfield 235, 3) := by decide +kernel
theorem dX5_mix_14 : decode cX5_mix 14 = .ok (.return_, 1) := by decide +kernel
theorem dX5_mixPairs_0 : decode cX5_mixPairs 0 = .ok (.iconst 0, 1) := by decide +kernel
theorem dX5_mixPairs_1 : decode cX5_mixPairs 1 = .ok (.istore_n 1, 1) := by decide +kernel
theorem dX5_mixPairs_2 : decode cX5_mixPairs 2 = .ok (.iload_n 1, 1) := by decide +kernel
theorem dX5_mixPairs_3 : decode cX5_mixPairs 3 = .ok (.bipush 100, 2) := by decide +kernel
theorem dX5_mixPairs_5 : decode cX5_mixPairs 5 = .ok (.if_icmp .ge 53, 3) := by decide +kernel
theorem dX5_mixPairs_8 : decode cX5_mixPairs 8 = .ok (.aload_n 0, 1) := by decide +kernel
theorem dX5_mixPairs_9 : decode cX5_mixPairs 9 = .ok (.aload_n 0, 1) := by decide +kernel
theorem dX5_mixPairs_10 : decode cX5_mixPairs 10 = .ok (.iload_n 1, 1) := by decide +kernel
theorem dX5_mixPairs_11 : decode cX5_mixPairs 11 = .ok (.iconst 0, 1) := by decide +kernel
theorem dX5_mixPairs_12 : decode cX5_mixPairs 12 = .ok (.invokevirtual 167, 3) := by decide +kernel
theorem dX5_mixPairs_15 : decode cX5_mixPairs 15 = .ok (.i2l, 1) := by decide +kernel
theorem dX5_mixPairs_16 : decode cX5_mixPairs 16 = .ok (.invokevirtual 239, 3) := by decide +kernel
theorem dX5_mixPairs_19 : decode cX5_mixPairs 19 = .ok (.aload_n 0, 1) := by decide +kernel
theorem dX5_mixPairs_20 : decode cX5_mixPairs 20 = .ok (.aload_n 0, 1) := by decide +kernel
theorem dX5_mixPairs_21 : decode cX5_mixPairs 21 = .ok (.iload_n 1, 1) := by decide +kernel
theorem dX5_mixPairs_22 : decode cX5_mixPairs 22 = .ok (.iconst 2, 1) := by decide +kernel
theorem dX5_mixPairs_23 : decode cX5_mixPairs 23 = .ok (.invokevirtual 167, 3) := by decide +kernel
theorem dX5_mixPairs_26 : decode cX5_mixPairs 26 = .ok (.i2l, 1) := by decide +kernel
theorem dX5_mixPairs_27 : decode cX5_mixPairs 27 = .ok (.invokevirtual 239, 3) := by decide +kernel
theorem dX5_mixPairs_30 : decode cX5_mixPairs 30 = .ok (.aload_n 0, 1) := by decide +kernel
theorem dX5_mixPairs_31 : decode cX5_mixPairs 31 = .ok (.aload_n 0, 1) := by decide +kernel
theorem dX5_mixPairs_32 : decode cX5_mixPairs 32 = .ok (.iload_n 1, 1) := by decide +kernel
theorem dX5_mixPairs_33 : decode cX5_mixPairs 33 = .ok (.iconst 3, 1) := by decide +kernel
theorem dX5_mixPairs_34 : decode cX5_mixPairs 34 = .ok (.invokevirtual 167, 3) := by decide +kernel
theorem dX5_mixPairs_37 : decode cX5_mixPairs 37 = .ok (.i2l, 1) := by decide +kernel
theorem dX5_mixPairs_38 : decode cX5_mixPairs 38 = .ok (.invokevirtual 239, 3) := by decide +kernel
theorem dX5_mixPairs_41 : decode cX5_mixPairs 41 = .ok (.aload_n 0, 1) := by decide +kernel
theorem dX5_mixPairs_42 : decode cX5_mixPairs 42 = .ok (.aload_n 0, 1) := by decide +kernel
theorem dX5_mixPairs_43 : decode cX5_mixPairs 43 = .ok (.iload_n 1, 1) := by decide +kernel
theorem dX5_mixPairs_44 : decode cX5_mixPairs 44 = .ok (.iconst 4, 1) := by decide +kernel
theorem dX5_mixPairs_45 : decode cX5_mixPairs 45 = .ok (.invokevirtual 167, 3) := by decide +kernel
theorem dX5_mixPairs_48 : decode cX5_mixPairs 48 = .ok (.i2l, 1) := by decide +kernel
theorem dX5_mixPairs_49 : decode cX5_mixPairs 49 = .ok (.invokevirtual 239, 3) := by decide +kernel
theorem dX5_mixPairs_52 : decode cX5_mixPairs 52 = .ok (.iinc 1 1, 3) := by decide +kernel
theorem dX5_mixPairs_55 : decode cX5_mixPairs 55 = .ok (.goto (-53), 3) := by decide +kernel
theorem dX5_mixPairs_58 : decode cX5_mixPairs 58 = .ok (.iconst 0, 1) := by decide +kernel
theorem dX5_mixPairs_59 : decode cX5_mixPairs 59 = .ok (.istore_n 1, 1) := by decide +kernel
theorem dX5_mixPairs_60 : decode cX5_mixPairs 60 = .ok (.iload_n 1, 1) := by decide +kernel
theorem dX5_mixPairs_61 : decode cX5_mixPairs 61 = .ok (.bipush 64, 2) := by decide +kernel
theorem dX5_mixPairs_63 : decode cX5_mixPairs 63 = .ok (.if_icmp .ge 24, 3) := by decide +kernel
theorem dX5_mixPairs_66 : decode cX5_mixPairs 66 = .ok (.aload_n 0, 1) := by decide +kernel
theorem dX5_mixPairs_67 : decode cX5_mixPairs 67 = .ok (.aload_n 0, 1) := by decide +kernel
theorem dX5_mixPairs_68 : decode cX5_mixPairs 68 = .ok (.iload_n 1, 1) := by decide +kernel
theorem dX5_mixPairs_69 : decode cX5_mixPairs 69 = .ok (.iconst 4, 1) := by decide +kernel
theorem dX5_mixPairs_70 : decode cX5_mixPairs 70 = .ok (.idiv, 1) := by decide +kernel
theorem dX5_mixPairs_71 : decode cX5_mixPairs 71 = .ok (.iload_n 1, 1) := by decide +kernel
theorem dX5_mixPairs_72 : decode cX5_mixPairs 72 = .ok (.iconst 4, 1) := by decide +kernel
theorem dX5_mixPairs_73 : decode cX5_mixPairs 73 = .ok (.irem, 1) := by decide +kernel
theorem dX5_mixPairs_74 : decode cX5_mixPairs 74 = .ok (.invokevirtual 174, 3) := by decide +kernel
theorem dX5_mixPairs_77 : decode cX5_mixPairs 77 = .ok (.i2l, 1) := by decide +kernel
theorem dX5_mixPairs_78 : decode cX5_mixPairs 78 = .ok (.invokevirtual 239, 3) := by decide +kernel
theorem dX5_mixPairs_81 : decode cX5_mixPairs 81 = .ok (.iinc 1 1, 3) := by decide +kernel
theorem dX5_mixPairs_84 : decode cX5_mixPairs 84 = .ok (.goto (-24), 3) := by decide +kernel
theorem dX5_mixPairs_87 : decode cX5_mixPairs 87 = .ok (.return_, 1) := by decide +kernel
theorem dX5_mixLessons_0 : decode cX5_mixLessons 0 = .ok (.iconst 0, 1) := by decide +kernel
theorem dX5_mixLessons_1 : decode cX5_mixLessons 1 = .ok (.istore_n 1, 1) := by decide +kernel
theorem dX5_mixLessons_2 : decode cX5_mixLessons 2 = .ok (.iload_n 1, 1) := by decide +kernel
theorem dX5_mixLessons_3 : decode cX5_mixLessons 3 = .ok (.aload_n 0, 1) := by decide +kernel
theorem dX5_mixLessons_4 : decode cX5_mixLessons 4 = .ok (.getfield 7, 3) := by decide +kernel
theorem dX5_mixLessons_7 : decode cX5_mixLessons 7 = .ok (.iconst 0, 1) := by decide +kernel
theorem dX5_mixLessons_8 : decode cX5_mixLessons 8 = .ok (.iaload, 1) := by decide +kernel
theorem dX5_mixLessons_9 : decode cX5_mixLessons 9 = .ok (.if_icmp .ge 47, 3) := by decide +kernel
theorem dX5_mixLessons_12 : decode cX5_mixLessons 12 = .ok (.aload_n 0, 1) := by decide +kernel
theorem dX5_mixLessons_13 : decode cX5_mixLessons 13 = .ok (.invokevirtual 98, 3) := by decide +kernel
theorem dX5_mixLessons_16 : decode cX5_mixLessons 16 = .ok (.iconst 0, 1) := by decide +kernel
theorem dX5_mixLessons_17 : decode cX5_mixLessons 17 = .ok (.istore_n 2, 1) := by decide +kernel
theorem dX5_mixLessons_18 : decode cX5_mixLessons 18 = .ok (.iload_n 2, 1) := by decide +kernel
theorem dX5_mixLessons_19 : decode cX5_mixLessons 19 = .ok (.iconst 4, 1) := by decide +kernel
theorem dX5_mixLessons_20 : decode cX5_mixLessons 20 = .ok (.if_icmp .ge 20, 3) := by decide +kernel
theorem dX5_mixLessons_23 : decode cX5_mixLessons 23 = .ok (.aload_n 0, 1) := by decide +kernel
theorem dX5_mixLessons_24 : decode cX5_mixLessons 24 = .ok (.aload_n 0, 1) := by decide +kernel
theorem dX5_mixLessons_25 : decode cX5_mixLessons 25 = .ok (.iload_n 1, 1) := by decide +kernel
theorem dX5_mixLessons_26 : decode cX5_mixLessons 26 = .ok (.iload_n 2, 1) := by decide +kernel
theorem dX5_mixLessons_27 : decode cX5_mixLessons 27 = .ok (.invokevirtual 177, 3) := by decide +kernel
theorem dX5_mixLessons_30 : decode cX5_mixLessons 30 = .ok (.i2l, 1) := by decide +kernel
theorem dX5_mixLessons_31 : decode cX5_mixLessons 31 = .ok (.invokevirtual 239, 3) := by decide +kernel
theorem dX5_mixLessons_34 : decode cX5_mixLessons 34 = .ok (.iinc 2 1, 3) := by decide +kernel
theorem dX5_mixLessons_37 : decode cX5_mixLessons 37 = .ok (.goto (-19), 3) := by decide +kernel
theorem dX5_mixLessons_40 : decode cX5_mixLessons 40 = .ok (.aload_n 0, 1) := by decide +kernel
theorem dX5_mixLessons_41 : decode cX5_mixLessons 41 = .ok (.aload_n 0, 1) := by decide +kernel
theorem dX5_mixLessons_42 : decode cX5_mixLessons 42 = .ok (.iload_n 1, 1) := by decide +kernel
theorem dX5_mixLessons_43 : decode cX5_mixLessons 43 = .ok (.invokevirtual 213, 3) := by decide +kernel
theorem dX5_mixLessons_46 : decode cX5_mixLessons 46 = .ok (.i2l, 1) := by decide +kernel
theorem dX5_mixLessons_47 : decode cX5_mixLessons 47 = .ok (.invokevirtual 239, 3) := by decide +kernel
theorem dX5_mixLessons_50 : decode cX5_mixLessons 50 = .ok (.iinc 1 1, 3) := by decide +kernel
theorem dX5_mixLessons_53 : decode cX5_mixLessons 53 = .ok (.goto (-51), 3) := by decide +kernel
theorem dX5_mixLessons_56 : decode cX5_mixLessons 56 = .ok (.aload_n 0, 1) := by decide +kernel
theorem dX5_mixLessons_57 : decode cX5_mixLessons 57 = .ok (.invokevirtual 98, 3) := by decide +kernel
theorem dX5_mixLessons_60 : decode cX5_mixLessons 60 = .ok (.return_, 1) := by decide +kernel
theorem dX5_digest_0 : decode cX5_digest 0 = .ok (.aload_n 0, 1) := by decide +kernel
theorem dX5_digest_1 : decode cX5_digest 1 = .ok (.iconst 0, 1) := by decide +kernel
theorem dX5_digest_2 : decode cX5_digest 2 = .ok (.putfield 54, 3) := by decide +kernel
theorem dX5_digest_5 : decode cX5_digest 5 = .ok (.aload_n 0, 1) := by decide +kernel
theorem dX5_digest_6 : decode cX5_digest 6 = .ok (.invokevirtual 98, 3) := by decide +kernel
theorem dX5_digest_9 : decode cX5_digest 9 = .ok (.aload_n 0, 1) := by decide +kernel
theorem dX5_digest_10 : decode cX5_digest 10 = .ok (.ldc2_w 243, 3) := by decide +kernel
theorem dX5_digest_13 : decode cX5_digest 13 = .ok (.putfield 235, 3) := by decide +kernel
theorem dX5_digest_16 : decode cX5_digest 16 = .ok (.iconst 0, 1) := by decide +kernel
theorem dX5_digest_17 : decode cX5_digest 17 = .ok (.istore_n 1, 1) := by decide +kernel
theorem dX5_digest_18 : decode cX5_digest 18 = .ok (.iload_n 1, 1) := by decide +kernel
theorem dX5_digest_19 : decode cX5_digest 19 = .ok (.bipush 8, 2) := by decide +kernel
theorem dX5_digest_21 : decode cX5_digest 21 = .ok (.if_icmp .ge 19, 3) := by decide +kernel
theorem dX5_digest_24 : decode cX5_digest 24 = .ok (.aload_n 0, 1) := by decide +kernel
theorem dX5_digest_25 : decode cX5_digest 25 = .ok (.aload_n 0, 1) := by decide +kernel
theorem dX5_digest_26 : decode cX5_digest 26 = .ok (.iload_n 1, 1) := by decide +kernel
theorem dX5_digest_27 : decode cX5_digest 27 = .ok (.invokevirtual 189, 3) := by decide +kernel
theorem dX5_digest_30 : decode cX5_digest 30 = .ok (.i2l, 1) := by decide +kernel
theorem dX5_digest_31 : decode cX5_digest 31 = .ok (.invokevirtual 239, 3) := by decide +kernel
theorem dX5_digest_34 : decode cX5_digest 34 = .ok (.iinc 1 1, 3) := by decide +kernel
theorem dX5_digest_37 : decode cX5_digest 37 = .ok (.goto (-19), 3) := by decide +kernel
theorem dX5_digest_40 : decode cX5_digest 40 = .ok (.iconst 0, 1) := by decide +kernel
theorem dX5_digest_41 : decode cX5_digest 41 = .ok (.istore_n 1, 1) := by decide +kernel
theorem dX5_digest_42 : decode cX5_digest 42 = .ok (.iload_n 1, 1) := by decide +kernel
theorem dX5_digest_43 : decode cX5_digest 43 = .ok (.iconst 4, 1) := by decide +kernel
theorem dX5_digest_44 : decode cX5_digest 44 = .ok (.if_icmp .ge 22, 3) := by decide +kernel
theorem dX5_digest_47 : decode cX5_digest 47 = .ok (.aload_n 0, 1) := by decide +kernel
theorem dX5_digest_48 : decode cX5_digest 48 = .ok (.aload_n 0, 1) := by decide +kernel
theorem dX5_digest_49 : decode cX5_digest 49 = .ok (.getfield 7, 3) := by decide +kernel
theorem dX5_digest_52 : decode cX5_digest 52 = .ok (.iconst 1, 1) := by decide +kernel
theorem dX5_digest_53 : decode cX5_digest 53 = .ok (.iload_n 1, 1) := by decide +kernel
theorem dX5_digest_54 : decode cX5_digest 54 = .ok (.iadd, 1) := by decide +kernel
theorem dX5_digest_55 : decode cX5_digest 55 = .ok (.iaload, 1) := by decide +kernel
theorem dX5_digest_56 : decode cX5_digest 56 = .ok (.i2l, 1) := by decide +kernel
theorem dX5_digest_57 : decode cX5_digest 57 = .ok (.invokevirtual 239, 3) := by decide +kernel
theorem dX5_digest_60 : decode cX5_digest 60 = .ok (.iinc 1 1, 3) := by decide +kernel
theorem dX5_digest_63 : decode cX5_digest 63 = .ok (.goto (-21), 3) := by decide +kernel
theorem dX5_digest_66 : decode cX5_digest 66 = .ok (.iconst 0, 1) := by decide +kernel
theorem dX5_digest_67 : decode cX5_digest 67 = .ok (.istore_n 1, 1) := by decide +kernel
theorem dX5_digest_68 : decode cX5_digest 68 = .ok (.iload_n 1, 1) := by decide +kernel
theorem dX5_digest_69 : decode cX5_digest 69 = .ok (.bipush 40, 2) := by decide +kernel
theorem dX5_digest_71 : decode cX5_digest 71 = .ok (.if_icmp .ge 24, 3) := by decide +kernel
theorem dX5_digest_74 : decode cX5_digest 74 = .ok (.aload_n 0, 1) := by decide +kernel
theorem dX5_digest_75 : decode cX5_digest 75 = .ok (.aload_n 0, 1) := by decide +kernel
theorem dX5_digest_76 : decode cX5_digest 76 = .ok (.iload_n 1, 1) := by decide +kernel
theorem dX5_digest_77 : decode cX5_digest 77 = .ok (.iconst 4, 1) := by decide +kernel
theorem dX5_digest_78 : decode cX5_digest 78 = .ok (.idiv, 1) := by decide +kernel
theorem dX5_digest_79 : decode cX5_digest 79 = .ok (.iload_n 1, 1) := by decide +kernel
theorem dX5_digest_80 : decode cX5_digest 80 = .ok (.iconst 4, 1) := by decide +kernel
theorem dX5_digest_81 : decode cX5_digest 81 = .ok (.irem, 1) := by decide +kernel
theorem dX5_digest_82 : decode cX5_digest 82 = .ok (.invokevirtual 164, 3) := by decide +kernel
theorem dX5_digest_85 : decode cX5_digest 85 = .ok (.i2l, 1) := by decide +kernel
theorem dX5_digest_86 : decode cX5_digest 86 = .ok (.invokevirtual 239, 3) := by decide +kernel
theorem dX5_digest_89 : decode cX5_digest 89 = .ok (.iinc 1 1, 3) := by decide +kernel
theorem dX5_digest_92 : decode cX5_digest 92 = .ok (.goto (-24), 3) := by decide +kernel
theorem dX5_digest_95 : decode cX5_digest 95 = .ok (.aload_n 0, 1) := by decide +kernel
theorem dX5_digest_96 : decode cX5_digest 96 = .ok (.invokevirtual 245, 3) := by decide +kernel
theorem dX5_digest_99 : decode cX5_digest 99 = .ok (.aload_n 0, 1) := by decide +kernel
theorem dX5_digest_100 : decode cX5_digest 100 = .ok (.invokevirtual 248, 3) := by decide +kernel
theorem dX5_digest_103 : decode cX5_digest 103 = .ok (.iconst 0, 1) := by decide +kernel
theorem dX5_digest_104 : decode cX5_digest 104 = .ok (.istore_n 1, 1) := by decide +kernel
theorem dX5_digest_105 : decode cX5_digest 105 = .ok (.iload_n 1, 1) := by decide +kernel
theorem dX5_digest_106 : decode cX5_digest 106 = .ok (.bipush 6, 2) := by decide +kernel
theorem dX5_digest_108 : decode cX5_digest 108 = .ok (.if_icmp .ge 19, 3) := by decide +kernel
theorem dX5_digest_111 : decode cX5_digest 111 = .ok (.aload_n 0, 1) := by decide +kernel
theorem dX5_digest_112 : decode cX5_digest 112 = .ok (.aload_n 0, 1) := by decide +kernel
theorem dX5_digest_113 : decode cX5_digest 113 = .ok (.iload_n 1, 1) := by decide +kernel
theorem dX5_digest_114 : decode cX5_digest 114 = .ok (.invokevirtual 210, 3) := by decide +kernel
theorem dX5_digest_117 : decode cX5_digest 117 = .ok (.i2l, 1) := by decide +kernel
theorem dX5_digest_118 : decode cX5_digest 118 = .ok (.invokevirtual 239, 3) := by decide +kernel
theorem dX5_digest_121 : decode cX5_digest 121 = .ok (.iinc 1 1, 3) := by decide +kernel
theorem dX5_digest_124 : decode cX5_digest 124 = .ok (.goto (-19), 3) := by decide +kernel
theorem dX5_digest_127 : decode cX5_digest 127 = .ok (.aload_n 0, 1) := by decide +kernel
theorem dX5_digest_128 : decode cX5_digest 128 = .ok (.aload_n 0, 1) := by decide +kernel
theorem dX5_digest_129 : decode cX5_digest 129 = .ok (.invokevirtual 216, 3) := by decide +kernel
theorem dX5_digest_132 : decode cX5_digest 132 = .ok (.i2l, 1) := by decide +kernel
theorem dX5_digest_133 : decode cX5_digest 133 = .ok (.invokevirtual 239, 3) := by decide +kernel
theorem dX5_digest_136 : decode cX5_digest 136 = .ok (.aload_n 0, 1) := by decide +kernel
theorem dX5_digest_137 : decode cX5_digest 137 = .ok (.invokevirtual 98, 3) := by decide +kernel
theorem dX5_digest_140 : decode cX5_digest 140 = .ok (.aload_n 0, 1) := by decide +kernel
theorem dX5_digest_141 : decode cX5_digest 141 = .ok (.aload_n 0, 1) := by decide +kernel
theorem dX5_digest_142 : decode cX5_digest 142 = .ok (.invokevirtual 221, 3) := by decide +kernel
theorem dX5_digest_145 : decode cX5_digest 145 = .ok (.invokestatic 251, 3) := by decide +kernel
theorem dX5_digest_148 : decode cX5_digest 148 = .ok (.invokevirtual 239, 3) := by decide +kernel
theorem dX5_digest_151 : decode cX5_digest 151 = .ok (.iconst 0, 1) := by decide +kernel
theorem dX5_digest_152 : decode cX5_digest 152 = .ok (.istore_n 1, 1) := by decide +kernel
theorem dX5_digest_153 : decode cX5_digest 153 = .ok (.iload_n 1, 1) := by decide +kernel
theorem dX5_digest_154 : decode cX5_digest 154 = .ok (.iconst 2, 1) := by decide +kernel
theorem dX5_digest_155 : decode cX5_digest 155 = .ok (.if_icmp .ge 27, 3) := by decide +kernel
theorem dX5_digest_158 : decode cX5_digest 158 = .ok (.aload_n 0, 1) := by decide +kernel
theorem dX5_digest_159 : decode cX5_digest 159 = .ok (.aload_n 0, 1) := by decide +kernel
theorem dX5_digest_160 : decode cX5_digest 160 = .ok (.getfield 19, 3) := by decide +kernel
theorem dX5_digest_163 : decode cX5_digest 163 = .ok (.iload_n 1, 1) := by decide +kernel
theorem dX5_digest_164 : decode cX5_digest 164 = .ok (.baload, 1) := by decide +kernel
theorem dX5_digest_165 : decode cX5_digest 165 = .ok (.ifCond .eq 7, 3) := by decide +kernel
theorem dX5_digest_168 : decode cX5_digest 168 = .ok (.lconst 1, 1) := by decide +kernel
theorem dX5_digest_169 : decode cX5_digest 169 = .ok (.goto 4, 3) := by decide +kernel
theorem dX5_digest_172 : decode cX5_digest 172 = .ok (.lconst 0, 1) := by decide +kernel
theorem dX5_digest_173 : decode cX5_digest 173 = .ok (.invokevirtual 239, 3) := by decide +kernel
theorem dX5_digest_176 : decode cX5_digest 176 = .ok (.iinc 1 1, 3) := by decide +kernel
theorem dX5_digest_179 : decode cX5_digest 179 = .ok (.goto (-26), 3) := by decide +kernel
theorem dX5_digest_182 : decode cX5_digest 182 = .ok (.aload_n 0, 1) := by decide +kernel
theorem dX5_digest_183 : decode cX5_digest 183 = .ok (.aload_n 0, 1) := by decide +kernel
theorem dX5_digest_184 : decode cX5_digest 184 = .ok (.getfield 142, 3) := by decide +kernel
theorem dX5_digest_187 : decode cX5_digest 187 = .ok (.i2l, 1) := by decide +kernel
theorem dX5_digest_188 : decode cX5_digest 188 = .ok (.invokevirtual 239, 3) := by decide +kernel
theorem dX5_digest_191 : decode cX5_digest 191 = .ok (.iconst 0, 1) := by decide +kernel
theorem dX5_digest_192 : decode cX5_digest 192 = .ok (.istore_n 1, 1) := by decide +kernel
theorem dX5_digest_193 : decode cX5_digest 193 = .ok (.iload_n 1, 1) := by decide +kernel
theorem dX5_digest_194 : decode cX5_digest 194 = .ok (.aload_n 0, 1) := by decide +kernel
theorem dX5_digest_195 : decode cX5_digest 195 = .ok (.getfield 142, 3) := by decide +kernel
theorem dX5_digest_198 : decode cX5_digest 198 = .ok (.if_icmp .ge 20, 3) := by decide +kernel
theorem dX5_digest_201 : decode cX5_digest 201 = .ok (.aload_n 0, 1) := by decide +kernel
theorem dX5_digest_202 : decode cX5_digest 202 = .ok (.aload_n 0, 1) := by decide +kernel
theorem dX5_digest_203 : decode cX5_digest 203 = .ok (.getfield 26, 3) := by decide +kernel
theorem dX5_digest_206 : decode cX5_digest 206 = .ok (.iload_n 1, 1) := by decide +kernel
theorem dX5_digest_207 : decode cX5_digest 207 = .ok (.iaload, 1) := by decide +kernel
theorem dX5_digest_208 : decode cX5_digest 208 = .ok (.i2l, 1) := by decide +kernel
theorem dX5_digest_209 : decode cX5_digest 209 = .ok (.invokevirtual 239, 3) := by decide +kernel
theorem dX5_digest_212 : decode cX5_digest 212 = .ok (.iinc 1 1, 3) := by decide +kernel
theorem dX5_digest_215 : decode cX5_digest 215 = .ok (.goto (-22), 3) := by decide +kernel
theorem dX5_digest_218 : decode cX5_digest 218 = .ok (.aload_n 0, 1) := by decide +kernel
theorem dX5_digest_219 : decode cX5_digest 219 = .ok (.getfield 235, 3) := by decide +kernel
theorem dX5_digest_222 : decode cX5_digest 222 = .ok (.lreturn, 1) := by decide +kernel
theorem dJ9_max_7cf53_0 : decode cJ9_max_7cf53 0 = .ok (.iload_n 0, 1) := by decide +kernel
theorem dJ9_max_7cf53_1 : decode cJ9_max_7cf53 1 = .ok (.iload_n 1, 1) := by decide +kernel
theorem dJ9_max_7cf53_2 : decode cJ9_max_7cf53 2 = .ok (.if_icmp .lt 7, 3) := by decide +kernel
theorem dJ9_max_7cf53_5 : decode cJ9_max_7cf53 5 = .ok (.iload_n 0, 1) := by decide +kernel
theorem dJ9_max_7cf53_6 : decode cJ9_max_7cf53 6 = .ok (.goto 4, 3) := by decide +kernel
theorem dJ9_max_7cf53_9 : decode cJ9_max_7cf53 9 = .ok (.iload_n 1, 1) := by decide +kernel
theorem dJ9_max_7cf53_10 : decode cJ9_max_7cf53 10 = .ok (.ireturn, 1) := by decide +kernel
theorem dJ9_min_7cf53_0 : decode cJ9_min_7cf53 0 = .ok (.iload_n 0, 1) := by decide +kernel
theorem dJ9_min_7cf53_1 : decode cJ9_min_7cf53 1 = .ok (.iload_n 1, 1) := by decide +kernel
theorem dJ9_min_7cf53_2 : decode cJ9_min_7cf53 2 = .ok (.if_icmp .gt 7, 3) := by decide +kernel
theorem dJ9_min_7cf53_5 : decode cJ9_min_7cf53 5 = .ok (.iload_n 0, 1) := by decide +kernel
theorem dJ9_min_7cf53_6 : decode cJ9_min_7cf53 6 = .ok (.goto 4, 3) := by decide +kernel
theorem dJ9_min_7cf53_9 : decode cJ9_min_7cf53 9 = .ok (.iload_n 1, 1) := by decide +kernel
theorem dJ9_min_7cf53_10 : decode cJ9_min_7cf53 10 = .ok (.ireturn, 1) := by decide +kernel
theorem dJ7_fill_53178_0 : decode cJ7_fill_53178 0 = .ok (.iconst 0, 1) := by decide +kernel
theorem dJ7_fill_53178_1 : decode cJ7_fill_53178 1 = .ok (.istore_n 2, 1) := by decide +kernel
theorem dJ7_fill_53178_2 : decode cJ7_fill_53178 2 = .ok (.aload_n 0, 1) := by decide +kernel
theorem dJ7_fill_53178_3 : decode cJ7_fill_53178 3 = .ok (.arraylength, 1) := by decide +kernel
theorem dJ7_fill_53178_4 : decode cJ7_fill_53178 4 = .ok (.istore_n 3, 1) := by decide +kernel
theorem dJ7_fill_53178_5 : decode cJ7_fill_53178 5 = .ok (.iload_n 2, 1) := by decide +kernel
theorem dJ7_fill_53178_6 : decode cJ7_fill_53178 6 = .ok (.iload_n 3, 1) := by decide +kernel
theorem dJ7_fill_53178_7 : decode cJ7_fill_53178 7 = .ok (.if_icmp .ge 13, 3) := by decide +kernel
theorem dJ7_fill_53178_10 : decode cJ7_fill_53178 10 = .ok (.aload_n 0, 1) := by decide +kernel
theorem dJ7_fill_53178_11 : decode cJ7_fill_53178 11 = .ok (.iload_n 2, 1) := by decide +kernel
theorem dJ7_fill_53178_12 : decode cJ7_fill_53178 12 = .ok (.iload_n 1, 1) := by decide +kernel
theorem dJ7_fill_53178_13 : decode cJ7_fill_53178 13 = .ok (.iastore, 1) := by decide +kernel
theorem dJ7_fill_53178_14 : decode cJ7_fill_53178 14 = .ok (.iinc 2 1, 3) := by decide +kernel
theorem dJ7_fill_53178_17 : decode cJ7_fill_53178 17 = .ok (.goto (-12), 3) := by decide +kernel
theorem dJ7_fill_53178_20 : decode cJ7_fill_53178 20 = .ok (.return_, 1) := by decide +kernel
theorem dL_width_0 : decode cL_width 0 = .ok (.aload_n 3, 1) := by decide +kernel
theorem dL_width_1 : decode cL_width 1 = .ok (.iconst 0, 1) := by decide +kernel
theorem dL_width_2 : decode cL_width 2 = .ok (.aload_n 0, 1) := by decide +kernel
theorem dL_width_3 : decode cL_width 3 = .ok (.iload_n 1, 1) := by decide +kernel
theorem dL_width_4 : decode cL_width 4 = .ok (.iload_n 2, 1) := by decide +kernel
theorem dL_width_5 : decode cL_width 5 = .ok (.invokevirtual 7, 3) := by decide +kernel
theorem dL_width_8 : decode cL_width 8 = .ok (.i2l, 1) := by decide +kernel
theorem dL_width_9 : decode cL_width 9 = .ok (.lastore, 1) := by decide +kernel
theorem dL_width_10 : decode cL_width 10 = .ok (.goto 11, 3) := by decide +kernel
theorem dL_width_13 : decode cL_width 13 = .ok (.astore 4, 2) := by decide +kernel
theorem dL_width_15 : decode cL_width 15 = .ok (.iconst 1, 1) := by decide +kernel
theorem dL_width_16 : decode cL_width 16 = .ok (.ireturn, 1) := by decide +kernel
theorem dL_width_17 : decode cL_width 17 = .ok (.astore 4, 2) := by decide +kernel
theorem dL_width_19 : decode cL_width 19 = .ok (.iconst 2, 1) := by decide +kernel
theorem dL_width_20 : decode cL_width 20 = .ok (.ireturn, 1) := by decide +kernel
theorem dL_width_21 : decode cL_width 21 = .ok (.iconst 0, 1) := by decide +kernel
theorem dL_width_22 : decode cL_width 22 = .ok (.ireturn, 1) := by decide +kernel
theorem dL_shape_0 : decode cL_shape 0 = .ok (.aload 4, 2) := by decide +kernel
theorem dL_shape_2 : decode cL_shape 2 = .ok (.iconst 0, 1) := by decide +kernel
theorem dL_shape_3 : decode cL_shape 3 = .ok (.aload_n 0, 1) := by decide +kernel
theorem dL_shape_4 : decode cL_shape 4 = .ok (.iload_n 1, 1) := by decide +kernel
theorem dL_shape_5 : decode cL_shape 5 = .ok (.iload_n 2, 1) := by decide +kernel
theorem dL_shape_6 : decode cL_shape 6 = .ok (.iload_n 3, 1) := by decide +kernel
theorem dL_shape_7 : decode cL_shape 7 = .ok (.invokevirtual 17, 3) := by decide +kernel
theorem dL_shape_10 : decode cL_shape 10 = .ok (.i2l, 1) := by decide +kernel
theorem dL_shape_11 : decode cL_shape 11 = .ok (.lastore, 1) := by decide +kernel
theorem dL_shape_12 : decode cL_shape 12 = .ok (.goto 11, 3) := by decide +kernel
theorem dL_shape_15 : decode cL_shape 15 = .ok (.astore 5, 2) := by decide +kernel
theorem dL_shape_17 : decode cL_shape 17 = .ok (.iconst 1, 1) := by decide +kernel
theorem dL_shape_18 : decode cL_shape 18 = .ok (.ireturn, 1) := by decide +kernel
theorem dL_shape_19 : decode cL_shape 19 = .ok (.astore 5, 2) := by decide +kernel
theorem dL_shape_21 : decode cL_shape 21 = .ok (.iconst 2, 1) := by decide +kernel
theorem dL_shape_22 : decode cL_shape 22 = .ok (.ireturn, 1) := by decide +kernel
theorem dL_shape_23 : decode cL_shape 23 = .ok (.iconst 0, 1) := by decide +kernel
theorem dL_shape_24 : decode cL_shape 24 = .ok (.ireturn, 1) := by decide +kernel
theorem dL_base_0 : decode cL_base 0 = .ok (.aload 4, 2) := by decide +kernel
theorem dL_base_2 : decode cL_base 2 = .ok (.iconst 0, 1) := by decide +kernel
theorem dL_base_3 : decode cL_base 3 = .ok (.aload_n 0, 1) := by decide +kernel
theorem dL_base_4 : decode cL_base 4 = .ok (.iload_n 1, 1) := by decide +kernel
theorem dL_base_5 : decode cL_base 5 = .ok (.iload_n 2, 1) := by decide +kernel
theorem dL_base_6 : decode cL_base 6 = .ok (.iload_n 3, 1) := by decide +kernel
theorem dL_base_7 : decode cL_base 7 = .ok (.invokevirtual 21, 3) := by decide +kernel
theorem dL_base_10 : decode cL_base 10 = .ok (.i2l, 1) := by decide +kernel
theorem dL_base_11 : decode cL_base 11 = .ok (.lastore, 1) := by decide +kernel
theorem dL_base_12 : decode cL_base 12 = .ok (.goto 11, 3) := by decide +kernel
theorem dL_base_15 : decode cL_base 15 = .ok (.astore 5, 2) := by decide +kernel
theorem dL_base_17 : decode cL_base 17 = .ok (.iconst 1, 1) := by decide +kernel
theorem dL_base_18 : decode cL_base 18 = .ok (.ireturn, 1) := by decide +kernel
theorem dL_base_19 : decode cL_base 19 = .ok (.astore 5, 2) := by decide +kernel
theorem dL_base_21 : decode cL_base 21 = .ok (.iconst 2, 1) := by decide +kernel
theorem dL_base_22 : decode cL_base 22 = .ok (.ireturn, 1) := by decide +kernel
theorem dL_base_23 : decode cL_base 23 = .ok (.iconst 0, 1) := by decide +kernel
theorem dL_base_24 : decode cL_base 24 = .ok (.ireturn, 1) := by decide +kernel
theorem dL_set_0 : decode cL_set 0 = .ok (.aload_n 3, 1) := by decide +kernel
theorem dL_set_1 : decode cL_set 1 = .ok (.iconst 0, 1) := by decide +kernel
theorem dL_set_2 : decode cL_set 2 = .ok (.aload_n 0, 1) := by decide +kernel
theorem dL_set_3 : decode cL_set 3 = .ok (.iload_n 1, 1) := by decide +kernel
theorem dL_set_4 : decode cL_set 4 = .ok (.iload_n 2, 1) := by decide +kernel
theorem dL_set_5 : decode cL_set 5 = .ok (.invokevirtual 24, 3) := by decide +kernel
theorem dL_set_8 : decode cL_set 8 = .ok (.i2l, 1) := by decide +kernel
theorem dL_set_9 : decode cL_set 9 = .ok (.lastore, 1) := by decide +kernel
theorem dL_set_10 : decode cL_set 10 = .ok (.goto 11, 3) := by decide +kernel
theorem dL_set_13 : decode cL_set 13 = .ok (.astore 4, 2) := by decide +kernel
theorem dL_set_15 : decode cL_set 15 = .ok (.iconst 1, 1) := by decide +kernel
theorem dL_set_16 : decode cL_set 16 = .ok (.ireturn, 1) := by decide +kernel
theorem dL_set_17 : decode cL_set 17 = .ok (.astore 4, 2) := by decide +kernel
theorem dL_set_19 : decode cL_set 19 = .ok (.iconst 2, 1) := by decide +kernel
theorem dL_set_20 : decode cL_set 20 = .ok (.ireturn, 1) := by decide +kernel
theorem dL_set_21 : decode cL_set 21 = .ok (.iconst 0, 1) := by decide +kernel
theorem dL_set_22 : decode cL_set 22 = .ok (.ireturn, 1) := by decide +kernel
theorem dL_circle_0 : decode cL_circle 0 = .ok (.aload 4, 2) := by decide +kernel
theorem dL_circle_2 : decode cL_circle 2 = .ok (.iconst 0, 1) := by decide +kernel
theorem dL_circle_3 : decode cL_circle 3 = .ok (.aload_n 0, 1) := by decide +kernel
theorem dL_circle_4 : decode cL_circle 4 = .ok (.iload_n 1, 1) := by decide +kernel
theorem dL_circle_5 : decode cL_circle 5 = .ok (.iload_n 2, 1) := by decide +kernel
theorem dL_circle_6 : decode cL_circle 6 = .ok (.iload_n 3, 1) := by decide +kernel
theorem dL_circle_7 : decode cL_circle 7 = .ok (.invokevirtual 27, 3) := by decide +kernel
theorem dL_circle_10 : decode cL_circle 10 = .ok (.i2l, 1) := by decide +kernel
theorem dL_circle_11 : decode cL_circle 11 = .ok (.lastore, 1) := by decide +kernel
theorem dL_circle_12 : decode cL_circle 12 = .ok (.goto 11, 3) := by decide +kernel
theorem dL_circle_15 : decode cL_circle 15 = .ok (.astore 5, 2) := by decide +kernel
theorem dL_circle_17 : decode cL_circle 17 = .ok (.iconst 1, 1) := by decide +kernel
theorem dL_circle_18 : decode cL_circle 18 = .ok (.ireturn, 1) := by decide +kernel
theorem dL_circle_19 : decode cL_circle 19 = .ok (.astore 5, 2) := by decide +kernel
theorem dL_circle_21 : decode cL_circle 21 = .ok (.iconst 2, 1) := by decide +kernel
theorem dL_circle_22 : decode cL_circle 22 = .ok (.ireturn, 1) := by decide +kernel
theorem dL_circle_23 : decode cL_circle 23 = .ok (.iconst 0, 1) := by decide +kernel
theorem dL_circle_24 : decode cL_circle 24 = .ok (.ireturn, 1) := by decide +kernel
theorem dL_forget_0 : decode cL_forget 0 = .ok (.aload_n 2, 1) := by decide +kernel
theorem dL_forget_1 : decode cL_forget 1 = .ok (.iconst 0, 1) := by decide +kernel
theorem dL_forget_2 : decode cL_forget 2 = .ok (.aload_n 0, 1) := by decide +kernel
theorem dL_forget_3 : decode cL_forget 3 = .ok (.iload_n 1, 1) := by decide +kernel
theorem dL_forget_4 : decode cL_forget 4 = .ok (.invokevirtual 30, 3) := by decide +kernel
theorem dL_forget_7 : decode cL_forget 7 = .ok (.i2l, 1) := by decide +kernel
theorem dL_forget_8 : decode cL_forget 8 = .ok (.lastore, 1) := by decide +kernel
theorem dL_forget_9 : decode cL_forget 9 = .ok (.goto 6, 3) := by decide +kernel
theorem dL_forget_12 : decode cL_forget 12 = .ok (.astore_n 3, 1) := by decide +kernel
theorem dL_forget_13 : decode cL_forget 13 = .ok (.iconst 1, 1) := by decide +kernel
theorem dL_forget_14 : decode cL_forget 14 = .ok (.ireturn, 1) := by decide +kernel
theorem dL_forget_15 : decode cL_forget 15 = .ok (.iconst 0, 1) := by decide +kernel
theorem dL_forget_16 : decode cL_forget 16 = .ok (.ireturn, 1) := by decide +kernel
theorem dL_append_0 : decode cL_append 0 = .ok (.aload_n 2, 1) := by decide +kernel
theorem dL_append_1 : decode cL_append 1 = .ok (.iconst 0, 1) := by decide +kernel
theorem dL_append_2 : decode cL_append 2 = .ok (.aload_n 0, 1) := by decide +kernel
theorem dL_append_3 : decode cL_append 3 = .ok (.iload_n 1, 1) := by decide +kernel
theorem dL_append_4 : decode cL_append 4 = .ok (.invokevirtual 34, 3) := by decide +kernel
theorem dL_append_7 : decode cL_append 7 = .ok (.i2l, 1) := by decide +kernel
theorem dL_append_8 : decode cL_append 8 = .ok (.lastore, 1) := by decide +kernel
theorem dL_append_9 : decode cL_append 9 = .ok (.goto 9, 3) := by decide +kernel
theorem dL_append_12 : decode cL_append 12 = .ok (.astore_n 3, 1) := by decide +kernel
theorem dL_append_13 : decode cL_append 13 = .ok (.iconst 1, 1) := by decide +kernel
theorem dL_append_14 : decode cL_append 14 = .ok (.ireturn, 1) := by decide +kernel
theorem dL_append_15 : decode cL_append 15 = .ok (.astore_n 3, 1) := by decide +kernel
theorem dL_append_16 : decode cL_append 16 = .ok (.iconst 2, 1) := by decide +kernel
theorem dL_append_17 : decode cL_append 17 = .ok (.ireturn, 1) := by decide +kernel
theorem dL_append_18 : decode cL_append 18 = .ok (.iconst 0, 1) := by decide +kernel
theorem dL_append_19 : decode cL_append 19 = .ok (.ireturn, 1) := by decide +kernel
theorem dL_circleAt_0 : decode cL_circleAt 0 = .ok (.aload_n 3, 1) := by decide +kernel
theorem dL_circleAt_1 : decode cL_circleAt 1 = .ok (.iconst 0, 1) := by decide +kernel
theorem dL_circleAt_2 : decode cL_circleAt 2 = .ok (.aload_n 0, 1) := by decide +kernel
theorem dL_circleAt_3 : decode cL_circleAt 3 = .ok (.iload_n 1, 1) := by decide +kernel
theorem dL_circleAt_4 : decode cL_circleAt 4 = .ok (.iload_n 2, 1) := by decide +kernel
theorem dL_circleAt_5 : decode cL_circleAt 5 = .ok (.invokevirtual 39, 3) := by decide +kernel
theorem dL_circleAt_8 : decode cL_circleAt 8 = .ok (.i2l, 1) := by decide +kernel
theorem dL_circleAt_9 : decode cL_circleAt 9 = .ok (.lastore, 1) := by decide +kernel
theorem dL_circleAt_10 : decode cL_circleAt 10 = .ok (.goto 15, 3) := by decide +kernel
theorem dL_circleAt_13 : decode cL_circleAt 13 = .ok (.astore 4, 2) := by decide +kernel
theorem dL_circleAt_15 : decode cL_circleAt 15 = .ok (.iconst 1, 1) := by decide +kernel
theorem dL_circleAt_16 : decode cL_circleAt 16 = .ok (.ireturn, 1) := by decide +kernel
theorem dL_circleAt_17 : decode cL_circleAt 17 = .ok (.astore 4, 2) := by decide +kernel
theorem dL_circleAt_19 : decode cL_circleAt 19 = .ok (.iconst 2, 1) := by decide +kernel
theorem dL_circleAt_20 : decode cL_circleAt 20 = .ok (.ireturn, 1) := by decide +kernel
theorem dL_circleAt_21 : decode cL_circleAt 21 = .ok (.astore 4, 2) := by decide +kernel
theorem dL_circleAt_23 : decode cL_circleAt 23 = .ok (.iconst 3, 1) := by decide +kernel
theorem dL_circleAt_24 : decode cL_circleAt 24 = .ok (.ireturn, 1) := by decide +kernel
theorem dL_circleAt_25 : decode cL_circleAt 25 = .ok (.iconst 0, 1) := by decide +kernel
theorem dL_circleAt_26 : decode cL_circleAt 26 = .ok (.ireturn, 1) := by decide +kernel
theorem dL_keep_0 : decode cL_keep 0 = .ok (.aload_n 2, 1) := by decide +kernel
theorem dL_keep_1 : decode cL_keep 1 = .ok (.iconst 0, 1) := by decide +kernel
theorem dL_keep_2 : decode cL_keep 2 = .ok (.aload_n 0, 1) := by decide +kernel
theorem dL_keep_3 : decode cL_keep 3 = .ok (.iload_n 1, 1) := by decide +kernel
theorem dL_keep_4 : decode cL_keep 4 = .ok (.invokevirtual 42, 3) := by decide +kernel
theorem dL_keep_7 : decode cL_keep 7 = .ok (.i2l, 1) := by decide +kernel
theorem dL_keep_8 : decode cL_keep 8 = .ok (.lastore, 1) := by decide +kernel
theorem dL_keep_9 : decode cL_keep 9 = .ok (.goto 6, 3) := by decide +kernel
theorem dL_keep_12 : decode cL_keep 12 = .ok (.astore_n 3, 1) := by decide +kernel
theorem dL_keep_13 : decode cL_keep 13 = .ok (.iconst 1, 1) := by decide +kernel
theorem dL_keep_14 : decode cL_keep 14 = .ok (.ireturn, 1) := by decide +kernel
theorem dL_keep_15 : decode cL_keep 15 = .ok (.iconst 0, 1) := by decide +kernel
theorem dL_keep_16 : decode cL_keep 16 = .ok (.ireturn, 1) := by decide +kernel
theorem dL_goBack_0 : decode cL_goBack 0 = .ok (.aload_n 2, 1) := by decide +kernel
theorem dL_goBack_1 : decode cL_goBack 1 = .ok (.iconst 0, 1) := by decide +kernel
theorem dL_goBack_2 : decode cL_goBack 2 = .ok (.aload_n 0, 1) := by decide +kernel
theorem dL_goBack_3 : decode cL_goBack 3 = .ok (.iload_n 1, 1) := by decide +kernel
theorem dL_goBack_4 : decode cL_goBack 4 = .ok (.invokevirtual 45, 3) := by decide +kernel
theorem dL_goBack_7 : decode cL_goBack 7 = .ok (.i2l, 1) := by decide +kernel
theorem dL_goBack_8 : decode cL_goBack 8 = .ok (.lastore, 1) := by decide +kernel
theorem dL_goBack_9 : decode cL_goBack 9 = .ok (.goto 9, 3) := by decide +kernel
theorem dL_goBack_12 : decode cL_goBack 12 = .ok (.astore_n 3, 1) := by decide +kernel
theorem dL_goBack_13 : decode cL_goBack 13 = .ok (.iconst 1, 1) := by decide +kernel
theorem dL_goBack_14 : decode cL_goBack 14 = .ok (.ireturn, 1) := by decide +kernel
theorem dL_goBack_15 : decode cL_goBack 15 = .ok (.astore_n 3, 1) := by decide +kernel
theorem dL_goBack_16 : decode cL_goBack 16 = .ok (.iconst 2, 1) := by decide +kernel
theorem dL_goBack_17 : decode cL_goBack 17 = .ok (.ireturn, 1) := by decide +kernel
theorem dL_goBack_18 : decode cL_goBack 18 = .ok (.iconst 0, 1) := by decide +kernel
theorem dL_goBack_19 : decode cL_goBack 19 = .ok (.ireturn, 1) := by decide +kernel
theorem dL_undo_0 : decode cL_undo 0 = .ok (.aload_n 1, 1) := by decide +kernel
theorem dL_undo_1 : decode cL_undo 1 = .ok (.iconst 0, 1) := by decide +kernel
theorem dL_undo_2 : decode cL_undo 2 = .ok (.aload_n 0, 1) := by decide +kernel
theorem dL_undo_3 : decode cL_undo 3 = .ok (.invokevirtual 48, 3) := by decide +kernel
theorem dL_undo_6 : decode cL_undo 6 = .ok (.i2l, 1) := by decide +kernel
theorem dL_undo_7 : decode cL_undo 7 = .ok (.lastore, 1) := by decide +kernel
theorem dL_undo_8 : decode cL_undo 8 = .ok (.goto 6, 3) := by decide +kernel
theorem dL_undo_11 : decode cL_undo 11 = .ok (.astore_n 2, 1) := by decide +kernel
theorem dL_undo_12 : decode cL_undo 12 = .ok (.iconst 1, 1) := by decide +kernel
theorem dL_undo_13 : decode cL_undo 13 = .ok (.ireturn, 1) := by decide +kernel
theorem dL_undo_14 : decode cL_undo 14 = .ok (.iconst 0, 1) := by decide +kernel
theorem dL_undo_15 : decode cL_undo 15 = .ok (.ireturn, 1) := by decide +kernel
theorem dL_letterOf_0 : decode cL_letterOf 0 = .ok (.aload_n 3, 1) := by decide +kernel
theorem dL_letterOf_1 : decode cL_letterOf 1 = .ok (.iconst 0, 1) := by decide +kernel
theorem dL_letterOf_2 : decode cL_letterOf 2 = .ok (.aload_n 0, 1) := by decide +kernel
theorem dL_letterOf_3 : decode cL_letterOf 3 = .ok (.iload_n 1, 1) := by decide +kernel
theorem dL_letterOf_4 : decode cL_letterOf 4 = .ok (.iload_n 2, 1) := by decide +kernel
theorem dL_letterOf_5 : decode cL_letterOf 5 = .ok (.invokevirtual 52, 3) := by decide +kernel
theorem dL_letterOf_8 : decode cL_letterOf 8 = .ok (.i2l, 1) := by decide +kernel
theorem dL_letterOf_9 : decode cL_letterOf 9 = .ok (.lastore, 1) := by decide +kernel
theorem dL_letterOf_10 : decode cL_letterOf 10 = .ok (.goto 11, 3) := by decide +kernel
theorem dL_letterOf_13 : decode cL_letterOf 13 = .ok (.astore 4, 2) := by decide +kernel
theorem dL_letterOf_15 : decode cL_letterOf 15 = .ok (.iconst 1, 1) := by decide +kernel
theorem dL_letterOf_16 : decode cL_letterOf 16 = .ok (.ireturn, 1) := by decide +kernel
theorem dL_letterOf_17 : decode cL_letterOf 17 = .ok (.astore 4, 2) := by decide +kernel
theorem dL_letterOf_19 : decode cL_letterOf 19 = .ok (.iconst 2, 1) := by decide +kernel
theorem dL_letterOf_20 : decode cL_letterOf 20 = .ok (.ireturn, 1) := by decide +kernel
theorem dL_letterOf_21 : decode cL_letterOf 21 = .ok (.iconst 0, 1) := by decide +kernel
theorem dL_letterOf_22 : decode cL_letterOf 22 = .ok (.ireturn, 1) := by decide +kernel
theorem dL_pairOf_0 : decode cL_pairOf 0 = .ok (.aload 4, 2) := by decide +kernel
theorem dL_pairOf_2 : decode cL_pairOf 2 = .ok (.iconst 0, 1) := by decide +kernel
theorem dL_pairOf_3 : decode cL_pairOf 3 = .ok (.aload_n 0, 1) := by decide +kernel
theorem dL_pairOf_4 : decode cL_pairOf 4 = .ok (.iload_n 1, 1) := by decide +kernel
theorem dL_pairOf_5 : decode cL_pairOf 5 = .ok (.iload_n 2, 1) := by decide +kernel
theorem dL_pairOf_6 : decode cL_pairOf 6 = .ok (.iload_n 3, 1) := by decide +kernel
theorem dL_pairOf_7 : decode cL_pairOf 7 = .ok (.invokevirtual 55, 3) := by decide +kernel
theorem dL_pairOf_10 : decode cL_pairOf 10 = .ok (.i2l, 1) := by decide +kernel
theorem dL_pairOf_11 : decode cL_pairOf 11 = .ok (.lastore, 1) := by decide +kernel
theorem dL_pairOf_12 : decode cL_pairOf 12 = .ok (.goto 11, 3) := by decide +kernel
theorem dL_pairOf_15 : decode cL_pairOf 15 = .ok (.astore 5, 2) := by decide +kernel
theorem dL_pairOf_17 : decode cL_pairOf 17 = .ok (.iconst 1, 1) := by decide +kernel
theorem dL_pairOf_18 : decode cL_pairOf 18 = .ok (.ireturn, 1) := by decide +kernel
theorem dL_pairOf_19 : decode cL_pairOf 19 = .ok (.astore 5, 2) := by decide +kernel
theorem dL_pairOf_21 : decode cL_pairOf 21 = .ok (.iconst 2, 1) := by decide +kernel
theorem dL_pairOf_22 : decode cL_pairOf 22 = .ok (.ireturn, 1) := by decide +kernel
theorem dL_pairOf_23 : decode cL_pairOf 23 = .ok (.iconst 0, 1) := by decide +kernel
theorem dL_pairOf_24 : decode cL_pairOf 24 = .ok (.ireturn, 1) := by decide +kernel
theorem dL_shapesOf_0 : decode cL_shapesOf 0 = .ok (.aload 4, 2) := by decide +kernel
theorem dL_shapesOf_2 : decode cL_shapesOf 2 = .ok (.iconst 0, 1) := by decide +kernel
theorem dL_shapesOf_3 : decode cL_shapesOf 3 = .ok (.aload_n 0, 1) := by decide +kernel
theorem dL_shapesOf_4 : decode cL_shapesOf 4 = .ok (.iload_n 1, 1) := by decide +kernel
theorem dL_shapesOf_5 : decode cL_shapesOf 5 = .ok (.iload_n 2, 1) := by decide +kernel
theorem dL_shapesOf_6 : decode cL_shapesOf 6 = .ok (.iload_n 3, 1) := by decide +kernel
theorem dL_shapesOf_7 : decode cL_shapesOf 7 = .ok (.invokevirtual 58, 3) := by decide +kernel
theorem dL_shapesOf_10 : decode cL_shapesOf 10 = .ok (.i2l, 1) := by decide +kernel
theorem dL_shapesOf_11 : decode cL_shapesOf 11 = .ok (.lastore, 1) := by decide +kernel
theorem dL_shapesOf_12 : decode cL_shapesOf 12 = .ok (.goto 11, 3) := by decide +kernel
theorem dL_shapesOf_15 : decode cL_shapesOf 15 = .ok (.astore 5, 2) := by decide +kernel
theorem dL_shapesOf_17 : decode cL_shapesOf 17 = .ok (.iconst 1, 1) := by decide +kernel
theorem dL_shapesOf_18 : decode cL_shapesOf 18 = .ok (.ireturn, 1) := by decide +kernel
theorem dL_shapesOf_19 : decode cL_shapesOf 19 = .ok (.astore 5, 2) := by decide +kernel
theorem dL_shapesOf_21 : decode cL_shapesOf 21 = .ok (.iconst 2, 1) := by decide +kernel
theorem dL_shapesOf_22 : decode cL_shapesOf 22 = .ok (.ireturn, 1) := by decide +kernel
theorem dL_shapesOf_23 : decode cL_shapesOf 23 = .ok (.iconst 0, 1) := by decide +kernel
theorem dL_shapesOf_24 : decode cL_shapesOf 24 = .ok (.ireturn, 1) := by decide +kernel
theorem dL_lessonOf_0 : decode cL_lessonOf 0 = .ok (.aload_n 3, 1) := by decide +kernel
theorem dL_lessonOf_1 : decode cL_lessonOf 1 = .ok (.iconst 0, 1) := by decide +kernel
theorem dL_lessonOf_2 : decode cL_lessonOf 2 = .ok (.aload_n 0, 1) := by decide +kernel
theorem dL_lessonOf_3 : decode cL_lessonOf 3 = .ok (.iload_n 1, 1) := by decide +kernel
theorem dL_lessonOf_4 : decode cL_lessonOf 4 = .ok (.iload_n 2, 1) := by decide +kernel
theorem dL_lessonOf_5 : decode cL_lessonOf 5 = .ok (.invokevirtual 61, 3) := by decide +kernel
theorem dL_lessonOf_8 : decode cL_lessonOf 8 = .ok (.i2l, 1) := by decide +kernel
theorem dL_lessonOf_9 : decode cL_lessonOf 9 = .ok (.lastore, 1) := by decide +kernel
theorem dL_lessonOf_10 : decode cL_lessonOf 10 = .ok (.goto 11, 3) := by decide +kernel
theorem dL_lessonOf_13 : decode cL_lessonOf 13 = .ok (.astore 4, 2) := by decide +kernel
theorem dL_lessonOf_15 : decode cL_lessonOf 15 = .ok (.iconst 1, 1) := by decide +kernel
theorem dL_lessonOf_16 : decode cL_lessonOf 16 = .ok (.ireturn, 1) := by decide +kernel
theorem dL_lessonOf_17 : decode cL_lessonOf 17 = .ok (.astore 4, 2) := by decide +kernel
theorem dL_lessonOf_19 : decode cL_lessonOf 19 = .ok (.iconst 2, 1) := by decide +kernel
theorem dL_lessonOf_20 : decode cL_lessonOf 20 = .ok (.ireturn, 1) := by decide +kernel
theorem dL_lessonOf_21 : decode cL_lessonOf 21 = .ok (.iconst 0, 1) := by decide +kernel
theorem dL_lessonOf_22 : decode cL_lessonOf 22 = .ok (.ireturn, 1) := by decide +kernel
theorem dL_count_0 : decode cL_count 0 = .ok (.aload_n 2, 1) := by decide +kernel
theorem dL_count_1 : decode cL_count 1 = .ok (.iconst 0, 1) := by decide +kernel
theorem dL_count_2 : decode cL_count 2 = .ok (.aload_n 0, 1) := by decide +kernel
theorem dL_count_3 : decode cL_count 3 = .ok (.iload_n 1, 1) := by decide +kernel
theorem dL_count_4 : decode cL_count 4 = .ok (.invokevirtual 64, 3) := by decide +kernel
theorem dL_count_7 : decode cL_count 7 = .ok (.i2l, 1) := by decide +kernel
theorem dL_count_8 : decode cL_count 8 = .ok (.lastore, 1) := by decide +kernel
theorem dL_count_9 : decode cL_count 9 = .ok (.goto 6, 3) := by decide +kernel
theorem dL_count_12 : decode cL_count 12 = .ok (.astore_n 3, 1) := by decide +kernel
theorem dL_count_13 : decode cL_count 13 = .ok (.iconst 1, 1) := by decide +kernel
theorem dL_count_14 : decode cL_count 14 = .ok (.ireturn, 1) := by decide +kernel
theorem dL_count_15 : decode cL_count 15 = .ok (.iconst 0, 1) := by decide +kernel
theorem dL_count_16 : decode cL_count 16 = .ok (.ireturn, 1) := by decide +kernel
theorem dL_setting_0 : decode cL_setting 0 = .ok (.aload_n 2, 1) := by decide +kernel
theorem dL_setting_1 : decode cL_setting 1 = .ok (.iconst 0, 1) := by decide +kernel
theorem dL_setting_2 : decode cL_setting 2 = .ok (.aload_n 0, 1) := by decide +kernel
theorem dL_setting_3 : decode cL_setting 3 = .ok (.iload_n 1, 1) := by decide +kernel
theorem dL_setting_4 : decode cL_setting 4 = .ok (.invokevirtual 67, 3) := by decide +kernel
theorem dL_setting_7 : decode cL_setting 7 = .ok (.i2l, 1) := by decide +kernel
theorem dL_setting_8 : decode cL_setting 8 = .ok (.lastore, 1) := by decide +kernel
theorem dL_setting_9 : decode cL_setting 9 = .ok (.goto 6, 3) := by decide +kernel
theorem dL_setting_12 : decode cL_setting 12 = .ok (.astore_n 3, 1) := by decide +kernel
theorem dL_setting_13 : decode cL_setting 13 = .ok (.iconst 1, 1) := by decide +kernel
theorem dL_setting_14 : decode cL_setting 14 = .ok (.ireturn, 1) := by decide +kernel
theorem dL_setting_15 : decode cL_setting 15 = .ok (.iconst 0, 1) := by decide +kernel
theorem dL_setting_16 : decode cL_setting 16 = .ok (.ireturn, 1) := by decide +kernel
theorem dL_text_0 : decode cL_text 0 = .ok (.aload_n 2, 1) := by decide +kernel
theorem dL_text_1 : decode cL_text 1 = .ok (.iconst 0, 1) := by decide +kernel
theorem dL_text_2 : decode cL_text 2 = .ok (.aload_n 0, 1) := by decide +kernel
theorem dL_text_3 : decode cL_text 3 = .ok (.iload_n 1, 1) := by decide +kernel
theorem dL_text_4 : decode cL_text 4 = .ok (.invokevirtual 70, 3) := by decide +kernel
theorem dL_text_7 : decode cL_text 7 = .ok (.i2l, 1) := by decide +kernel
theorem dL_text_8 : decode cL_text 8 = .ok (.lastore, 1) := by decide +kernel
theorem dL_text_9 : decode cL_text 9 = .ok (.goto 6, 3) := by decide +kernel
theorem dL_text_12 : decode cL_text 12 = .ok (.astore_n 3, 1) := by decide +kernel
theorem dL_text_13 : decode cL_text 13 = .ok (.iconst 1, 1) := by decide +kernel
theorem dL_text_14 : decode cL_text 14 = .ok (.ireturn, 1) := by decide +kernel
theorem dL_text_15 : decode cL_text 15 = .ok (.iconst 0, 1) := by decide +kernel
theorem dL_text_16 : decode cL_text 16 = .ok (.ireturn, 1) := by decide +kernel
theorem dL_ifCircled_0 : decode cL_ifCircled 0 = .ok (.aload 4, 2) := by decide +kernel
theorem dL_ifCircled_2 : decode cL_ifCircled 2 = .ok (.iconst 0, 1) := by decide +kernel
theorem dL_ifCircled_3 : decode cL_ifCircled 3 = .ok (.aload_n 0, 1) := by decide +kernel
theorem dL_ifCircled_4 : decode cL_ifCircled 4 = .ok (.iload_n 1, 1) := by decide +kernel
theorem dL_ifCircled_5 : decode cL_ifCircled 5 = .ok (.iload_n 2, 1) := by decide +kernel
theorem dL_ifCircled_6 : decode cL_ifCircled 6 = .ok (.iload_n 3, 1) := by decide +kernel
theorem dL_ifCircled_7 : decode cL_ifCircled 7 = .ok (.invokevirtual 73, 3) := by decide +kernel
theorem dL_ifCircled_10 : decode cL_ifCircled 10 = .ok (.i2l, 1) := by decide +kernel
theorem dL_ifCircled_11 : decode cL_ifCircled 11 = .ok (.lastore, 1) := by decide +kernel
theorem dL_ifCircled_12 : decode cL_ifCircled 12 = .ok (.goto 11, 3) := by decide +kernel
theorem dL_ifCircled_15 : decode cL_ifCircled 15 = .ok (.astore 5, 2) := by decide +kernel
theorem dL_ifCircled_17 : decode cL_ifCircled 17 = .ok (.iconst 1, 1) := by decide +kernel
theorem dL_ifCircled_18 : decode cL_ifCircled 18 = .ok (.ireturn, 1) := by decide +kernel
theorem dL_ifCircled_19 : decode cL_ifCircled 19 = .ok (.astore 5, 2) := by decide +kernel
theorem dL_ifCircled_21 : decode cL_ifCircled 21 = .ok (.iconst 2, 1) := by decide +kernel
theorem dL_ifCircled_22 : decode cL_ifCircled 22 = .ok (.ireturn, 1) := by decide +kernel
theorem dL_ifCircled_23 : decode cL_ifCircled 23 = .ok (.iconst 0, 1) := by decide +kernel
theorem dL_ifCircled_24 : decode cL_ifCircled 24 = .ok (.ireturn, 1) := by decide +kernel
theorem dL_ifForgotten_0 : decode cL_ifForgotten 0 = .ok (.aload_n 2, 1) := by decide +kernel
theorem dL_ifForgotten_1 : decode cL_ifForgotten 1 = .ok (.iconst 0, 1) := by decide +kernel
theorem dL_ifForgotten_2 : decode cL_ifForgotten 2 = .ok (.aload_n 0, 1) := by decide +kernel
theorem dL_ifForgotten_3 : decode cL_ifForgotten 3 = .ok (.iload_n 1, 1) := by decide +kernel
theorem dL_ifForgotten_4 : decode cL_ifForgotten 4 = .ok (.invokevirtual 76, 3) := by decide +kernel
theorem dL_ifForgotten_7 : decode cL_ifForgotten 7 = .ok (.i2l, 1) := by decide +kernel
theorem dL_ifForgotten_8 : decode cL_ifForgotten 8 = .ok (.lastore, 1) := by decide +kernel
theorem dL_ifForgotten_9 : decode cL_ifForgotten 9 = .ok (.goto 6, 3) := by decide +kernel
theorem dL_ifForgotten_12 : decode cL_ifForgotten 12 = .ok (.astore_n 3, 1) := by decide +kernel
theorem dL_ifForgotten_13 : decode cL_ifForgotten 13 = .ok (.iconst 1, 1) := by decide +kernel
theorem dL_ifForgotten_14 : decode cL_ifForgotten 14 = .ok (.ireturn, 1) := by decide +kernel
theorem dL_ifForgotten_15 : decode cL_ifForgotten 15 = .ok (.iconst 0, 1) := by decide +kernel
theorem dL_ifForgotten_16 : decode cL_ifForgotten 16 = .ok (.ireturn, 1) := by decide +kernel
theorem dL_law_0 : decode cL_law 0 = .ok (.new 8, 3) := by decide +kernel
theorem dL_law_3 : decode cL_law 3 = .ok (.dup, 1) := by decide +kernel
theorem dL_law_4 : decode cL_law 4 = .ok (.invokespecial 79, 3) := by decide +kernel
theorem dL_law_7 : decode cL_law 7 = .ok (.astore_n 1, 1) := by decide +kernel
theorem dL_law_8 : decode cL_law 8 = .ok (.new 80, 3) := by decide +kernel
theorem dL_law_11 : decode cL_law 11 = .ok (.dup, 1) := by decide +kernel
theorem dL_law_12 : decode cL_law 12 = .ok (.invokespecial 82, 3) := by decide +kernel
theorem dL_law_15 : decode cL_law 15 = .ok (.astore_n 2, 1) := by decide +kernel
theorem dL_law_16 : decode cL_law 16 = .ok (.iconst 1, 1) := by decide +kernel
theorem dL_law_17 : decode cL_law 17 = .ok (.newarray .long, 2) := by decide +kernel
theorem dL_law_19 : decode cL_law 19 = .ok (.astore_n 3, 1) := by decide +kernel
theorem dL_law_20 : decode cL_law 20 = .ok (.iconst 0, 1) := by decide +kernel
theorem dL_law_21 : decode cL_law 21 = .ok (.istore 4, 2) := by decide +kernel
theorem dL_law_23 : decode cL_law 23 = .ok (.iload 4, 2) := by decide +kernel
theorem dL_law_25 : decode cL_law 25 = .ok (.aload_n 0, 1) := by decide +kernel
theorem dL_law_26 : decode cL_law 26 = .ok (.arraylength, 1) := by decide +kernel
theorem dL_law_27 : decode cL_law 27 = .ok (.iconst 4, 1) := by decide +kernel
theorem dL_law_28 : decode cL_law 28 = .ok (.isub, 1) := by decide +kernel
theorem dL_law_29 : decode cL_law 29 = .ok (.if_icmp .gt 1535, 3) := by decide +kernel
theorem dL_law_32 : decode cL_law 32 = .ok (.aload_n 0, 1) := by decide +kernel
theorem dL_law_33 : decode cL_law 33 = .ok (.iload 4, 2) := by decide +kernel
theorem dL_law_35 : decode cL_law 35 = .ok (.iaload, 1) := by decide +kernel
theorem dL_law_36 : decode cL_law 36 = .ok (.bipush 31, 2) := by decide +kernel
theorem dL_law_38 : decode cL_law 38 = .ok (.iand, 1) := by decide +kernel
theorem dL_law_39 : decode cL_law 39 = .ok (.tableswitch 1519 0 24 #[113, 181, 261, 341, 409, 489, 545, 601, 614, 627, 695, 751, 807, 851, 919, 999, 1079, 1147, 1203, 1259, 1315, 1395, 1451, 1464, 1505], 113) := by decide +kernel
theorem dL_law_152 : decode cL_law 152 = .ok (.aload_n 1, 1) := by decide +kernel
theorem dL_law_153 : decode cL_law 153 = .ok (.aload_n 0, 1) := by decide +kernel
theorem dL_law_154 : decode cL_law 154 = .ok (.iload 4, 2) := by decide +kernel
theorem dL_law_156 : decode cL_law 156 = .ok (.iconst 1, 1) := by decide +kernel
theorem dL_law_157 : decode cL_law 157 = .ok (.iadd, 1) := by decide +kernel
theorem dL_law_158 : decode cL_law 158 = .ok (.iaload, 1) := by decide +kernel
theorem dL_law_159 : decode cL_law 159 = .ok (.aload_n 0, 1) := by decide +kernel
theorem dL_law_160 : decode cL_law 160 = .ok (.iload 4, 2) := by decide +kernel
theorem dL_law_162 : decode cL_law 162 = .ok (.iconst 2, 1) := by decide +kernel
theorem dL_law_163 : decode cL_law 163 = .ok (.iadd, 1) := by decide +kernel
theorem dL_law_164 : decode cL_law 164 = .ok (.iaload, 1) := by decide +kernel
theorem dL_law_165 : decode cL_law 165 = .ok (.aload_n 3, 1) := by decide +kernel
theorem dL_law_166 : decode cL_law 166 = .ok (.invokestatic 83, 3) := by decide +kernel
theorem dL_law_169 : decode cL_law 169 = .ok (.istore 5, 2) := by decide +kernel
theorem dL_law_171 : decode cL_law 171 = .ok (.aload_n 2, 1) := by decide +kernel
theorem dL_law_172 : decode cL_law 172 = .ok (.aload_n 0, 1) := by decide +kernel
theorem dL_law_173 : decode cL_law 173 = .ok (.iload 4, 2) := by decide +kernel
theorem dL_law_175 : decode cL_law 175 = .ok (.iconst 1, 1) := by decide +kernel
theorem dL_law_176 : decode cL_law 176 = .ok (.iadd, 1) := by decide +kernel
theorem dL_law_177 : decode cL_law 177 = .ok (.iaload, 1) := by decide +kernel
theorem dL_law_178 : decode cL_law 178 = .ok (.aload_n 0, 1) := by decide +kernel
theorem dL_law_179 : decode cL_law 179 = .ok (.iload 4, 2) := by decide +kernel
theorem dL_law_181 : decode cL_law 181 = .ok (.iconst 2, 1) := by decide +kernel
theorem dL_law_182 : decode cL_law 182 = .ok (.iadd, 1) := by decide +kernel
theorem dL_law_183 : decode cL_law 183 = .ok (.iaload, 1) := by decide +kernel
theorem dL_law_184 : decode cL_law 184 = .ok (.invokevirtual 88, 3) := by decide +kernel
theorem dL_law_187 : decode cL_law 187 = .ok (.istore 6, 2) := by decide +kernel
theorem dL_law_189 : decode cL_law 189 = .ok (.aload_n 2, 1) := by decide +kernel
theorem dL_law_190 : decode cL_law 190 = .ok (.invokevirtual 89, 3) := by decide +kernel
theorem dL_law_193 : decode cL_law 193 = .ok (.iload 5, 2) := by decide +kernel
theorem dL_law_195 : decode cL_law 195 = .ok (.if_icmp .eq 5, 3) := by decide +kernel
theorem dL_law_198 : decode cL_law 198 = .ok (.iconst 0, 1) := by decide +kernel
theorem dL_law_199 : decode cL_law 199 = .ok (.ireturn, 1) := by decide +kernel
theorem dL_law_200 : decode cL_law 200 = .ok (.iload 5, 2) := by decide +kernel
theorem dL_law_202 : decode cL_law 202 = .ok (.ifCond .ne 15, 3) := by decide +kernel
theorem dL_law_205 : decode cL_law 205 = .ok (.aload_n 3, 1) := by decide +kernel
theorem dL_law_206 : decode cL_law 206 = .ok (.iconst 0, 1) := by decide +kernel
theorem dL_law_207 : decode cL_law 207 = .ok (.laload, 1) := by decide +kernel
theorem dL_law_208 : decode cL_law 208 = .ok (.iload 6, 2) := by decide +kernel
theorem dL_law_210 : decode cL_law 210 = .ok (.i2l, 1) := by decide +kernel
theorem dL_law_211 : decode cL_law 211 = .ok (.lcmp, 1) := by decide +kernel
theorem dL_law_212 : decode cL_law 212 = .ok (.ifCond .eq 5, 3) := by decide +kernel
theorem dL_law_215 : decode cL_law 215 = .ok (.iconst 0, 1) := by decide +kernel
theorem dL_law_216 : decode cL_law 216 = .ok (.ireturn, 1) := by decide +kernel
theorem dL_law_217 : decode cL_law 217 = .ok (.goto 1341, 3) := by decide +kernel
theorem dL_law_220 : decode cL_law 220 = .ok (.aload_n 1, 1) := by decide +kernel
theorem dL_law_221 : decode cL_law 221 = .ok (.aload_n 0, 1) := by decide +kernel
theorem dL_law_222 : decode cL_law 222 = .ok (.iload 4, 2) := by decide +kernel
theorem dL_law_224 : decode cL_law 224 = .ok (.iconst 1, 1) := by decide +kernel
theorem dL_law_225 : decode cL_law 225 = .ok (.iadd, 1) := by decide +kernel
theorem dL_law_226 : decode cL_law 226 = .ok (.iaload, 1) := by decide +kernel
theorem dL_law_227 : decode cL_law 227 = .ok (.aload_n 0, 1) := by decide +kernel
theorem dL_law_228 : decode cL_law 228 = .ok (.iload 4, 2) := by decide +kernel
theorem dL_law_230 : decode cL_law 230 = .ok (.iconst 2, 1) := by decide +kernel
theorem dL_law_231 : decode cL_law 231 = .ok (.iadd, 1) := by decide +kernel
theorem dL_law_232 : decode cL_law 232 = .ok (.iaload, 1) := by decide +kernel
theorem dL_law_233 : decode cL_law 233 = .ok (.aload_n 0, 1) := by decide +kernel
theorem dL_law_234 : decode cL_law 234 = .ok (.iload 4, 2) := by decide +kernel
theorem dL_law_236 : decode cL_law 236 = .ok (.iconst 3, 1) := by decide +kernel
theorem dL_law_237 : decode cL_law 237 = .ok (.iadd, 1) := by decide +kernel
theorem dL_law_238 : decode cL_law 238 = .ok (.iaload, 1) := by decide +kernel
theorem dL_law_239 : decode cL_law 239 = .ok (.aload_n 3, 1) := by decide +kernel
theorem dL_law_240 : decode cL_law 240 = .ok (.invokestatic 92, 3) := by decide +kernel
theorem dL_law_243 : decode cL_law 243 = .ok (.istore 5, 2) := by decide +kernel
theorem dL_law_245 : decode cL_law 245 = .ok (.aload_n 2, 1) := by decide +kernel
theorem dL_law_246 : decode cL_law 246 = .ok (.aload_n 0, 1) := by decide +kernel
theorem dL_law_247 : decode cL_law 247 = .ok (.iload 4, 2) := by decide +kernel
theorem dL_law_249 : decode cL_law 249 = .ok (.iconst 1, 1) := by decide +kernel
theorem dL_law_250 : decode cL_law 250 = .ok (.iadd, 1) := by decide +kernel
theorem dL_law_251 : decode cL_law 251 = .ok (.iaload, 1) := by decide +kernel
theorem dL_law_252 : decode cL_law 252 = .ok (.aload_n 0, 1) := by decide +kernel
theorem dL_law_253 : decode cL_law 253 = .ok (.iload 4, 2) := by decide +kernel
theorem dL_law_255 : decode cL_law 255 = .ok (.iconst 2, 1) := by decide +kernel
theorem dL_law_256 : decode cL_law 256 = .ok (.iadd, 1) := by decide +kernel
theorem dL_law_257 : decode cL_law 257 = .ok (.iaload, 1) := by decide +kernel
theorem dL_law_258 : decode cL_law 258 = .ok (.aload_n 0, 1) := by decide +kernel
theorem dL_law_259 : decode cL_law 259 = .ok (.iload 4, 2) := by decide +kernel
theorem dL_law_261 : decode cL_law 261 = .ok (.iconst 3, 1) := by decide +kernel
theorem dL_law_262 : decode cL_law 262 = .ok (.iadd, 1) := by decide +kernel
theorem dL_law_263 : decode cL_law 263 = .ok (.iaload, 1) := by decide +kernel
theorem dL_law_264 : decode cL_law 264 = .ok (.invokevirtual 95, 3) := by decide +kernel
theorem dL_law_267 : decode cL_law 267 = .ok (.istore 6, 2) := by decide +kernel
theorem dL_law_269 : decode cL_law 269 = .ok (.aload_n 2, 1) := by decide +kernel
theorem dL_law_270 : decode cL_law 270 = .ok (.invokevirtual 89, 3) := by decide +kernel
theorem dL_law_273 : decode cL_law 273 = .ok (.iload 5, 2) := by decide +kernel
theorem dL_law_275 : decode cL_law 275 = .ok (.if_icmp .eq 5, 3) := by decide +kernel
theorem dL_law_278 : decode cL_law 278 = .ok (.iconst 0, 1) := by decide +kernel
theorem dL_law_279 : decode cL_law 279 = .ok (.ireturn, 1) := by decide +kernel
theorem dL_law_280 : decode cL_law 280 = .ok (.iload 5, 2) := by decide +kernel
theorem dL_law_282 : decode cL_law 282 = .ok (.ifCond .ne 15, 3) := by decide +kernel
theorem dL_law_285 : decode cL_law 285 = .ok (.aload_n 3, 1) := by decide +kernel
theorem dL_law_286 : decode cL_law 286 = .ok (.iconst 0, 1) := by decide +kernel
theorem dL_law_287 : decode cL_law 287 = .ok (.laload, 1) := by decide +kernel
theorem dL_law_288 : decode cL_law 288 = .ok (.iload 6, 2) := by decide +kernel
theorem dL_law_290 : decode cL_law 290 = .ok (.i2l, 1) := by decide +kernel
theorem dL_law_291 : decode cL_law 291 = .ok (.lcmp, 1) := by decide +kernel
theorem dL_law_292 : decode cL_law 292 = .ok (.ifCond .eq 5, 3) := by decide +kernel
theorem dL_law_295 : decode cL_law 295 = .ok (.iconst 0, 1) := by decide +kernel
theorem dL_law_296 : decode cL_law 296 = .ok (.ireturn, 1) := by decide +kernel
theorem dL_law_297 : decode cL_law 297 = .ok (.goto 1261, 3) := by decide +kernel
theorem dL_law_300 : decode cL_law 300 = .ok (.aload_n 1, 1) := by decide +kernel
theorem dL_law_301 : decode cL_law 301 = .ok (.aload_n 0, 1) := by decide +kernel
theorem dL_law_302 : decode cL_law 302 = .ok (.iload 4, 2) := by decide +kernel
theorem dL_law_304 : decode cL_law 304 = .ok (.iconst 1, 1) := by decide +kernel
theorem dL_law_305 : decode cL_law 305 = .ok (.iadd, 1) := by decide +kernel
theorem dL_law_306 : decode cL_law 306 = .ok (.iaload, 1) := by decide +kernel
theorem dL_law_307 : decode cL_law 307 = .ok (.aload_n 0, 1) := by decide +kernel
theorem dL_law_308 : decode cL_law 308 = .ok (.iload 4, 2) := by decide +kernel
theorem dL_law_310 : decode cL_law 310 = .ok (.iconst 2, 1) := by decide +kernel
theorem dL_law_311 : decode cL_law 311 = .ok (.iadd, 1) := by decide +kernel
theorem dL_law_312 : decode cL_law 312 = .ok (.iaload, 1) := by decide +kernel
theorem dL_law_313 : decode cL_law 313 = .ok (.aload_n 0, 1) := by decide +kernel
theorem dL_law_314 : decode cL_law 314 = .ok (.iload 4, 2) := by decide +kernel
theorem dL_law_316 : decode cL_law 316 = .ok (.iconst 3, 1) := by decide +kernel
theorem dL_law_317 : decode cL_law 317 = .ok (.iadd, 1) := by decide +kernel
theorem dL_law_318 : decode cL_law 318 = .ok (.iaload, 1) := by decide +kernel
theorem dL_law_319 : decode cL_law 319 = .ok (.aload_n 3, 1) := by decide +kernel
theorem dL_law_320 : decode cL_law 320 = .ok (.invokestatic 96, 3) := by decide +kernel
theorem dL_law_323 : decode cL_law 323 = .ok (.istore 5, 2) := by decide +kernel
theorem dL_law_325 : decode cL_law 325 = .ok (.aload_n 2, 1) := by decide +kernel
theorem dL_law_326 : decode cL_law 326 = .ok (.aload_n 0, 1) := by decide +kernel
theorem dL_law_327 : decode cL_law 327 = .ok (.iload 4, 2) := by decide +kernel
theorem dL_law_329 : decode cL_law 329 = .ok (.iconst 1, 1) := by decide +kernel
theorem dL_law_330 : decode cL_law 330 = .ok (.iadd, 1) := by decide +kernel
theorem dL_law_331 : decode cL_law 331 = .ok (.iaload, 1) := by decide +kernel
theorem dL_law_332 : decode cL_law 332 = .ok (.aload_n 0, 1) := by decide +kernel
theorem dL_law_333 : decode cL_law 333 = .ok (.iload 4, 2) := by decide +kernel
theorem dL_law_335 : decode cL_law 335 = .ok (.iconst 2, 1) := by decide +kernel
theorem dL_law_336 : decode cL_law 336 = .ok (.iadd, 1) := by decide +kernel
theorem dL_law_337 : decode cL_law 337 = .ok (.iaload, 1) := by decide +kernel
theorem dL_law_338 : decode cL_law 338 = .ok (.aload_n 0, 1) := by decide +kernel
theorem dL_law_339 : decode cL_law 339 = .ok (.iload 4, 2) := by decide +kernel
theorem dL_law_341 : decode cL_law 341 = .ok (.iconst 3, 1) := by decide +kernel
theorem dL_law_342 : decode cL_law 342 = .ok (.iadd, 1) := by decide +kernel
theorem dL_law_343 : decode cL_law 343 = .ok (.iaload, 1) := by decide +kernel
theorem dL_law_344 : decode cL_law 344 = .ok (.invokevirtual 98, 3) := by decide +kernel
theorem dL_law_347 : decode cL_law 347 = .ok (.istore 6, 2) := by decide +kernel
theorem dL_law_349 : decode cL_law 349 = .ok (.aload_n 2, 1) := by decide +kernel
theorem dL_law_350 : decode cL_law 350 = .ok (.invokevirtual 89, 3) := by decide +kernel
theorem dL_law_353 : decode cL_law 353 = .ok (.iload 5, 2) := by decide +kernel
theorem dL_law_355 : decode cL_law 355 = .ok (.if_icmp .eq 5, 3) := by decide +kernel
theorem dL_law_358 : decode cL_law 358 = .ok (.iconst 0, 1) := by decide +kernel
theorem dL_law_359 : decode cL_law 359 = .ok (.ireturn, 1) := by decide +kernel
theorem dL_law_360 : decode cL_law 360 = .ok (.iload 5, 2) := by decide +kernel
theorem dL_law_362 : decode cL_law 362 = .ok (.ifCond .ne 15, 3) := by decide +kernel
theorem dL_law_365 : decode cL_law 365 = .ok (.aload_n 3, 1) := by decide +kernel
theorem dL_law_366 : decode cL_law 366 = .ok (.iconst 0, 1) := by decide +kernel
theorem dL_law_367 : decode cL_law 367 = .ok (.laload, 1) := by decide +kernel
theorem dL_law_368 : decode cL_law 368 = .ok (.iload 6, 2) := by decide +kernel
theorem dL_law_370 : decode cL_law 370 = .ok (.i2l, 1) := by decide +kernel
theorem dL_law_371 : decode cL_law 371 = .ok (.lcmp, 1) := by decide +kernel
theorem dL_law_372 : decode cL_law 372 = .ok (.ifCond .eq 5, 3) := by decide +kernel
theorem dL_law_375 : decode cL_law 375 = .ok (.iconst 0, 1) := by decide +kernel
theorem dL_law_376 : decode cL_law 376 = .ok (.ireturn, 1) := by decide +kernel
theorem dL_law_377 : decode cL_law 377 = .ok (.goto 1181, 3) := by decide +kernel
theorem dL_law_380 : decode cL_law 380 = .ok (.aload_n 1, 1) := by decide +kernel
theorem dL_law_381 : decode cL_law 381 = .ok (.aload_n 0, 1) := by decide +kernel
theorem dL_law_382 : decode cL_law 382 = .ok (.iload 4, 2) := by decide +kernel
theorem dL_law_384 : decode cL_law 384 = .ok (.iconst 1, 1) := by decide +kernel
theorem dL_law_385 : decode cL_law 385 = .ok (.iadd, 1) := by decide +kernel
theorem dL_law_386 : decode cL_law 386 = .ok (.iaload, 1) := by decide +kernel
theorem dL_law_387 : decode cL_law 387 = .ok (.aload_n 0, 1) := by decide +kernel
theorem dL_law_388 : decode cL_law 388 = .ok (.iload 4, 2) := by decide +kernel
theorem dL_law_390 : decode cL_law 390 = .ok (.iconst 2, 1) := by decide +kernel
theorem dL_law_391 : decode cL_law 391 = .ok (.iadd, 1) := by decide +kernel
theorem dL_law_392 : decode cL_law 392 = .ok (.iaload, 1) := by decide +kernel
theorem dL_law_393 : decode cL_law 393 = .ok (.aload_n 3, 1) := by decide +kernel
theorem dL_law_394 : decode cL_law 394 = .ok (.invokestatic 99, 3) := by decide +kernel
theorem dL_law_397 : decode cL_law 397 = .ok (.istore 5, 2) := by decide +kernel
theorem dL_law_399 : decode cL_law 399 = .ok (.aload_n 2, 1) := by decide +kernel
theorem dL_law_400 : decode cL_law 400 = .ok (.aload_n 0, 1) := by decide +kernel
theorem dL_law_401 : decode cL_law 401 = .ok (.iload 4, 2) := by decide +kernel
theorem dL_law_403 : decode cL_law 403 = .ok (.iconst 1, 1) := by decide +kernel
theorem dL_law_404 : decode cL_law 404 = .ok (.iadd, 1) := by decide +kernel
theorem dL_law_405 : decode cL_law 405 = .ok (.iaload, 1) := by decide +kernel
theorem dL_law_406 : decode cL_law 406 = .ok (.aload_n 0, 1) := by decide +kernel
theorem dL_law_407 : decode cL_law 407 = .ok (.iload 4, 2) := by decide +kernel
theorem dL_law_409 : decode cL_law 409 = .ok (.iconst 2, 1) := by decide +kernel
theorem dL_law_410 : decode cL_law 410 = .ok (.iadd, 1) := by decide +kernel
theorem dL_law_411 : decode cL_law 411 = .ok (.iaload, 1) := by decide +kernel
theorem dL_law_412 : decode cL_law 412 = .ok (.invokevirtual 101, 3) := by decide +kernel
theorem dL_law_415 : decode cL_law 415 = .ok (.istore 6, 2) := by decide +kernel
theorem dL_law_417 : decode cL_law 417 = .ok (.aload_n 2, 1) := by decide +kernel
theorem dL_law_418 : decode cL_law 418 = .ok (.invokevirtual 89, 3) := by decide +kernel
theorem dL_law_421 : decode cL_law 421 = .ok (.iload 5, 2) := by decide +kernel
theorem dL_law_423 : decode cL_law 423 = .ok (.if_icmp .eq 5, 3) := by decide +kernel
theorem dL_law_426 : decode cL_law 426 = .ok (.iconst 0, 1) := by decide +kernel
theorem dL_law_427 : decode cL_law 427 = .ok (.ireturn, 1) := by decide +kernel
theorem dL_law_428 : decode cL_law 428 = .ok (.iload 5, 2) := by decide +kernel
theorem dL_law_430 : decode cL_law 430 = .ok (.ifCond .ne 15, 3) := by decide +kernel
theorem dL_law_433 : decode cL_law 433 = .ok (.aload_n 3, 1) := by decide +kernel
theorem dL_law_434 : decode cL_law 434 = .ok (.iconst 0, 1) := by decide +kernel
theorem dL_law_435 : decode cL_law 435 = .ok (.laload, 1) := by decide +kernel
theorem dL_law_436 : decode cL_law 436 = .ok (.iload 6, 2) := by decide +kernel
theorem dL_law_438 : decode cL_law 438 = .ok (.i2l, 1) := by decide +kernel
theorem dL_law_439 : decode cL_law 439 = .ok (.lcmp, 1) := by decide +kernel
theorem dL_law_440 : decode cL_law 440 = .ok (.ifCond .eq 5, 3) := by decide +kernel
theorem dL_law_443 : decode cL_law 443 = .ok (.iconst 0, 1) := by decide +kernel
theorem dL_law_444 : decode cL_law 444 = .ok (.ireturn, 1) := by decide +kernel
theorem dL_law_445 : decode cL_law 445 = .ok (.goto 1113, 3) := by decide +kernel
theorem dL_law_448 : decode cL_law 448 = .ok (.aload_n 1, 1) := by decide +kernel
theorem dL_law_449 : decode cL_law 449 = .ok (.aload_n 0, 1) := by decide +kernel
theorem dL_law_450 : decode cL_law 450 = .ok (.iload 4, 2) := by decide +kernel
theorem dL_law_452 : decode cL_law 452 = .ok (.iconst 1, 1) := by decide +kernel
theorem dL_law_453 : decode cL_law 453 = .ok (.iadd, 1) := by decide +kernel
theorem dL_law_454 : decode cL_law 454 = .ok (.iaload, 1) := by decide +kernel
theorem dL_law_455 : decode cL_law 455 = .ok (.aload_n 0, 1) := by decide +kernel
theorem dL_law_456 : decode cL_law 456 = .ok (.iload 4, 2) := by decide +kernel
theorem dL_law_458 : decode cL_law 458 = .ok (.iconst 2, 1) := by decide +kernel
theorem dL_law_459 : decode cL_law 459 = .ok (.iadd, 1) := by decide +kernel
theorem dL_law_460 : decode cL_law 460 = .ok (.iaload, 1) := by decide +kernel
theorem dL_law_461 : decode cL_law 461 = .ok (.aload_n 0, 1) := by decide +kernel
theorem dL_law_462 : decode cL_law 462 = .ok (.iload 4, 2) := by decide +kernel
theorem dL_law_464 : decode cL_law 464 = .ok (.iconst 3, 1) := by decide +kernel
theorem dL_law_465 : decode cL_law 465 = .ok (.iadd, 1) := by decide +kernel
theorem dL_law_466 : decode cL_law 466 = .ok (.iaload, 1) := by decide +kernel
theorem dL_law_467 : decode cL_law 467 = .ok (.aload_n 3, 1) := by decide +kernel
theorem dL_law_468 : decode cL_law 468 = .ok (.invokestatic 102, 3) := by decide +kernel
theorem dL_law_471 : decode cL_law 471 = .ok (.istore 5, 2) := by decide +kernel
theorem dL_law_473 : decode cL_law 473 = .ok (.aload_n 2, 1) := by decide +kernel
theorem dL_law_474 : decode cL_law 474 = .ok (.aload_n 0, 1) := by decide +kernel
theorem dL_law_475 : decode cL_law 475 = .ok (.iload 4, 2) := by decide +kernel
theorem dL_law_477 : decode cL_law 477 = .ok (.iconst 1, 1) := by decide +kernel
theorem dL_law_478 : decode cL_law 478 = .ok (.iadd, 1) := by decide +kernel
theorem dL_law_479 : decode cL_law 479 = .ok (.iaload, 1) := by decide +kernel
theorem dL_law_480 : decode cL_law 480 = .ok (.aload_n 0, 1) := by decide +kernel
theorem dL_law_481 : decode cL_law 481 = .ok (.iload 4, 2) := by decide +kernel
theorem dL_law_483 : decode cL_law 483 = .ok (.iconst 2, 1) := by decide +kernel
theorem dL_law_484 : decode cL_law 484 = .ok (.iadd, 1) := by decide +kernel
theorem dL_law_485 : decode cL_law 485 = .ok (.iaload, 1) := by decide +kernel
theorem dL_law_486 : decode cL_law 486 = .ok (.aload_n 0, 1) := by decide +kernel
theorem dL_law_487 : decode cL_law 487 = .ok (.iload 4, 2) := by decide +kernel
theorem dL_law_489 : decode cL_law 489 = .ok (.iconst 3, 1) := by decide +kernel
theorem dL_law_490 : decode cL_law 490 = .ok (.iadd, 1) := by decide +kernel
theorem dL_law_491 : decode cL_law 491 = .ok (.iaload, 1) := by decide +kernel
theorem dL_law_492 : decode cL_law 492 = .ok (.invokevirtual 104, 3) := by decide +kernel
theorem dL_law_495 : decode cL_law 495 = .ok (.istore 6, 2) := by decide +kernel
theorem dL_law_497 : decode cL_law 497 = .ok (.aload_n 2, 1) := by decide +kernel
theorem dL_law_498 : decode cL_law 498 = .ok (.invokevirtual 89, 3) := by decide +kernel
theorem dL_law_501 : decode cL_law 501 = .ok (.iload 5, 2) := by decide +kernel
theorem dL_law_503 : decode cL_law 503 = .ok (.if_icmp .eq 5, 3) := by decide +kernel
theorem dL_law_506 : decode cL_law 506 = .ok (.iconst 0, 1) := by decide +kernel
theorem dL_law_507 : decode cL_law 507 = .ok (.ireturn, 1) := by decide +kernel
theorem dL_law_508 : decode cL_law 508 = .ok (.iload 5, 2) := by decide +kernel
theorem dL_law_510 : decode cL_law 510 = .ok (.ifCond .ne 15, 3) := by decide +kernel
theorem dL_law_513 : decode cL_law 513 = .ok (.aload_n 3, 1) := by decide +kernel
theorem dL_law_514 : decode cL_law 514 = .ok (.iconst 0, 1) := by decide +kernel
theorem dL_law_515 : decode cL_law 515 = .ok (.laload, 1) := by decide +kernel
theorem dL_law_516 : decode cL_law 516 = .ok (.iload 6, 2) := by decide +kernel
theorem dL_law_518 : decode cL_law 518 = .ok (.i2l, 1) := by decide +kernel
theorem dL_law_519 : decode cL_law 519 = .ok (.lcmp, 1) := by decide +kernel
theorem dL_law_520 : decode cL_law 520 = .ok (.ifCond .eq 5, 3) := by decide +kernel
theorem dL_law_523 : decode cL_law 523 = .ok (.iconst 0, 1) := by decide +kernel
theorem dL_law_524 : decode cL_law 524 = .ok (.ireturn, 1) := by decide +kernel
theorem dL_law_525 : decode cL_law 525 = .ok (.goto 1033, 3) := by decide +kernel
theorem dL_law_528 : decode cL_law 528 = .ok (.aload_n 1, 1) := by decide +kernel
theorem dL_law_529 : decode cL_law 529 = .ok (.aload_n 0, 1) := by decide +kernel
theorem dL_law_530 : decode cL_law 530 = .ok (.iload 4, 2) := by decide +kernel
theorem dL_law_532 : decode cL_law 532 = .ok (.iconst 1, 1) := by decide +kernel
theorem dL_law_533 : decode cL_law 533 = .ok (.iadd, 1) := by decide +kernel
theorem dL_law_534 : decode cL_law 534 = .ok (.iaload, 1) := by decide +kernel
theorem dL_law_535 : decode cL_law 535 = .ok (.aload_n 3, 1) := by decide +kernel
theorem dL_law_536 : decode cL_law 536 = .ok (.invokestatic 105, 3) := by decide +kernel
theorem dL_law_539 : decode cL_law 539 = .ok (.istore 5, 2) := by decide +kernel
theorem dL_law_541 : decode cL_law 541 = .ok (.aload_n 2, 1) := by decide +kernel
theorem dL_law_542 : decode cL_law 542 = .ok (.aload_n 0, 1) := by decide +kernel
theorem dL_law_543 : decode cL_law 543 = .ok (.iload 4, 2) := by decide +kernel
theorem dL_law_545 : decode cL_law 545 = .ok (.iconst 1, 1) := by decide +kernel
theorem dL_law_546 : decode cL_law 546 = .ok (.iadd, 1) := by decide +kernel
theorem dL_law_547 : decode cL_law 547 = .ok (.iaload, 1) := by decide +kernel
theorem dL_law_548 : decode cL_law 548 = .ok (.invokevirtual 108, 3) := by decide +kernel
theorem dL_law_551 : decode cL_law 551 = .ok (.istore 6, 2) := by decide +kernel
theorem dL_law_553 : decode cL_law 553 = .ok (.aload_n 2, 1) := by decide +kernel
theorem dL_law_554 : decode cL_law 554 = .ok (.invokevirtual 89, 3) := by decide +kernel
theorem dL_law_557 : decode cL_law 557 = .ok (.iload 5, 2) := by decide +kernel
theorem dL_law_559 : decode cL_law 559 = .ok (.if_icmp .eq 5, 3) := by decide +kernel
theorem dL_law_562 : decode cL_law 562 = .ok (.iconst 0, 1) := by decide +kernel
theorem dL_law_563 : decode cL_law 563 = .ok (.ireturn, 1) := by decide +kernel
theorem dL_law_564 : decode cL_law 564 = .ok (.iload 5, 2) := by decide +kernel
theorem dL_law_566 : decode cL_law 566 = .ok (.ifCond .ne 15, 3) := by decide +kernel
theorem dL_law_569 : decode cL_law 569 = .ok (.aload_n 3, 1) := by decide +kernel
theorem dL_law_570 : decode cL_law 570 = .ok (.iconst 0, 1) := by decide +kernel
theorem dL_law_571 : decode cL_law 571 = .ok (.laload, 1) := by decide +kernel
theorem dL_law_572 : decode cL_law 572 = .ok (.iload 6, 2) := by decide +kernel
theorem dL_law_574 : decode cL_law 574 = .ok (.i2l, 1) := by decide +kernel
theorem dL_law_575 : decode cL_law 575 = .ok (.lcmp, 1) := by decide +kernel
theorem dL_law_576 : decode cL_law 576 = .ok (.ifCond .eq 5, 3) := by decide +kernel
theorem dL_law_579 : decode cL_law 579 = .ok (.iconst 0, 1) := by decide +kernel
theorem dL_law_580 : decode cL_law 580 = .ok (.ireturn, 1) := by decide +kernel
theorem dL_law_581 : decode cL_law 581 = .ok (.goto 977, 3) := by decide +kernel
theorem dL_law_584 : decode cL_law 584 = .ok (.aload_n 1, 1) := by decide +kernel
theorem dL_law_585 : decode cL_law 585 = .ok (.aload_n 0, 1) := by decide +kernel
theorem dL_law_586 : decode cL_law 586 = .ok (.iload 4, 2) := by decide +kernel
theorem dL_law_588 : decode cL_law 588 = .ok (.iconst 1, 1) := by decide +kernel
theorem dL_law_589 : decode cL_law 589 = .ok (.iadd, 1) := by decide +kernel
theorem dL_law_590 : decode cL_law 590 = .ok (.iaload, 1) := by decide +kernel
theorem dL_law_591 : decode cL_law 591 = .ok (.aload_n 3, 1) := by decide +kernel
theorem dL_law_592 : decode cL_law 592 = .ok (.invokestatic 109, 3) := by decide +kernel
theorem dL_law_595 : decode cL_law 595 = .ok (.istore 5, 2) := by decide +kernel
theorem dL_law_597 : decode cL_law 597 = .ok (.aload_n 2, 1) := by decide +kernel
theorem dL_law_598 : decode cL_law 598 = .ok (.aload_n 0, 1) := by decide +kernel
theorem dL_law_599 : decode cL_law 599 = .ok (.iload 4, 2) := by decide +kernel
theorem dL_law_601 : decode cL_law 601 = .ok (.iconst 1, 1) := by decide +kernel
theorem dL_law_602 : decode cL_law 602 = .ok (.iadd, 1) := by decide +kernel
theorem dL_law_603 : decode cL_law 603 = .ok (.iaload, 1) := by decide +kernel
theorem dL_law_604 : decode cL_law 604 = .ok (.invokevirtual 111, 3) := by decide +kernel
theorem dL_law_607 : decode cL_law 607 = .ok (.istore 6, 2) := by decide +kernel
theorem dL_law_609 : decode cL_law 609 = .ok (.aload_n 2, 1) := by decide +kernel
theorem dL_law_610 : decode cL_law 610 = .ok (.invokevirtual 89, 3) := by decide +kernel
theorem dL_law_613 : decode cL_law 613 = .ok (.iload 5, 2) := by decide +kernel
theorem dL_law_615 : decode cL_law 615 = .ok (.if_icmp .eq 5, 3) := by decide +kernel
theorem dL_law_618 : decode cL_law 618 = .ok (.iconst 0, 1) := by decide +kernel
theorem dL_law_619 : decode cL_law 619 = .ok (.ireturn, 1) := by decide +kernel
theorem dL_law_620 : decode cL_law 620 = .ok (.iload 5, 2) := by decide +kernel
theorem dL_law_622 : decode cL_law 622 = .ok (.ifCond .ne 15, 3) := by decide +kernel
theorem dL_law_625 : decode cL_law 625 = .ok (.aload_n 3, 1) := by decide +kernel
theorem dL_law_626 : decode cL_law 626 = .ok (.iconst 0, 1) := by decide +kernel
theorem dL_law_627 : decode cL_law 627 = .ok (.laload, 1) := by decide +kernel
theorem dL_law_628 : decode cL_law 628 = .ok (.iload 6, 2) := by decide +kernel
theorem dL_law_630 : decode cL_law 630 = .ok (.i2l, 1) := by decide +kernel
theorem dL_law_631 : decode cL_law 631 = .ok (.lcmp, 1) := by decide +kernel
theorem dL_law_632 : decode cL_law 632 = .ok (.ifCond .eq 5, 3) := by decide +kernel
theorem dL_law_635 : decode cL_law 635 = .ok (.iconst 0, 1) := by decide +kernel
theorem dL_law_636 : decode cL_law 636 = .ok (.ireturn, 1) := by decide +kernel
theorem dL_law_637 : decode cL_law 637 = .ok (.goto 921, 3) := by decide +kernel
theorem dL_law_640 : decode cL_law 640 = .ok (.aload_n 1, 1) := by decide +kernel
theorem dL_law_641 : decode cL_law 641 = .ok (.invokevirtual 112, 3) := by decide +kernel
theorem dL_law_644 : decode cL_law 644 = .ok (.aload_n 2, 1) := by decide +kernel
theorem dL_law_645 : decode cL_law 645 = .ok (.invokevirtual 115, 3) := by decide +kernel
theorem dL_law_648 : decode cL_law 648 = .ok (.if_icmp .eq 910, 3) := by decide +kernel
theorem dL_law_651 : decode cL_law 651 = .ok (.iconst 0, 1) := by decide +kernel
theorem dL_law_652 : decode cL_law 652 = .ok (.ireturn, 1) := by decide +kernel
theorem dL_law_653 : decode cL_law 653 = .ok (.aload_n 1, 1) := by decide +kernel
theorem dL_law_654 : decode cL_law 654 = .ok (.invokevirtual 116, 3) := by decide +kernel
theorem dL_law_657 : decode cL_law 657 = .ok (.aload_n 2, 1) := by decide +kernel
theorem dL_law_658 : decode cL_law 658 = .ok (.invokevirtual 119, 3) := by decide +kernel
theorem dL_law_661 : decode cL_law 661 = .ok (.if_icmp .eq 897, 3) := by decide +kernel
theorem dL_law_664 : decode cL_law 664 = .ok (.iconst 0, 1) := by decide +kernel
theorem dL_law_665 : decode cL_law 665 = .ok (.ireturn, 1) := by decide +kernel
theorem dL_law_666 : decode cL_law 666 = .ok (.aload_n 1, 1) := by decide +kernel
theorem dL_law_667 : decode cL_law 667 = .ok (.aload_n 0, 1) := by decide +kernel
theorem dL_law_668 : decode cL_law 668 = .ok (.iload 4, 2) := by decide +kernel
theorem dL_law_670 : decode cL_law 670 = .ok (.iconst 1, 1) := by decide +kernel
theorem dL_law_671 : decode cL_law 671 = .ok (.iadd, 1) := by decide +kernel
theorem dL_law_672 : decode cL_law 672 = .ok (.iaload, 1) := by decide +kernel
theorem dL_law_673 : decode cL_law 673 = .ok (.aload_n 0, 1) := by decide +kernel
theorem dL_law_674 : decode cL_law 674 = .ok (.iload 4, 2) := by decide +kernel
theorem dL_law_676 : decode cL_law 676 = .ok (.iconst 2, 1) := by decide +kernel
theorem dL_law_677 : decode cL_law 677 = .ok (.iadd, 1) := by decide +kernel
theorem dL_law_678 : decode cL_law 678 = .ok (.iaload, 1) := by decide +kernel
theorem dL_law_679 : decode cL_law 679 = .ok (.aload_n 3, 1) := by decide +kernel
theorem dL_law_680 : decode cL_law 680 = .ok (.invokestatic 120, 3) := by decide +kernel
theorem dL_law_683 : decode cL_law 683 = .ok (.istore 5, 2) := by decide +kernel
theorem dL_law_685 : decode cL_law 685 = .ok (.aload_n 2, 1) := by decide +kernel
theorem dL_law_686 : decode cL_law 686 = .ok (.aload_n 0, 1) := by decide +kernel
theorem dL_law_687 : decode cL_law 687 = .ok (.iload 4, 2) := by decide +kernel
theorem dL_law_689 : decode cL_law 689 = .ok (.iconst 1, 1) := by decide +kernel
theorem dL_law_690 : decode cL_law 690 = .ok (.iadd, 1) := by decide +kernel
theorem dL_law_691 : decode cL_law 691 = .ok (.iaload, 1) := by decide +kernel
theorem dL_law_692 : decode cL_law 692 = .ok (.aload_n 0, 1) := by decide +kernel
theorem dL_law_693 : decode cL_law 693 = .ok (.iload 4, 2) := by decide +kernel
theorem dL_law_695 : decode cL_law 695 = .ok (.iconst 2, 1) := by decide +kernel
theorem dL_law_696 : decode cL_law 696 = .ok (.iadd, 1) := by decide +kernel
theorem dL_law_697 : decode cL_law 697 = .ok (.iaload, 1) := by decide +kernel
theorem dL_law_698 : decode cL_law 698 = .ok (.invokevirtual 122, 3) := by decide +kernel
theorem dL_law_701 : decode cL_law 701 = .ok (.istore 6, 2) := by decide +kernel
theorem dL_law_703 : decode cL_law 703 = .ok (.aload_n 2, 1) := by decide +kernel
theorem dL_law_704 : decode cL_law 704 = .ok (.invokevirtual 89, 3) := by decide +kernel
theorem dL_law_707 : decode cL_law 707 = .ok (.iload 5, 2) := by decide +kernel
theorem dL_law_709 : decode cL_law 709 = .ok (.if_icmp .eq 5, 3) := by decide +kernel
theorem dL_law_712 : decode cL_law 712 = .ok (.iconst 0, 1) := by decide +kernel
theorem dL_law_713 : decode cL_law 713 = .ok (.ireturn, 1) := by decide +kernel
theorem dL_law_714 : decode cL_law 714 = .ok (.iload 5, 2) := by decide +kernel
theorem dL_law_716 : decode cL_law 716 = .ok (.ifCond .ne 15, 3) := by decide +kernel
theorem dL_law_719 : decode cL_law 719 = .ok (.aload_n 3, 1) := by decide +kernel
theorem dL_law_720 : decode cL_law 720 = .ok (.iconst 0, 1) := by decide +kernel
theorem dL_law_721 : decode cL_law 721 = .ok (.laload, 1) := by decide +kernel
theorem dL_law_722 : decode cL_law 722 = .ok (.iload 6, 2) := by decide +kernel
theorem dL_law_724 : decode cL_law 724 = .ok (.i2l, 1) := by decide +kernel
theorem dL_law_725 : decode cL_law 725 = .ok (.lcmp, 1) := by decide +kernel
theorem dL_law_726 : decode cL_law 726 = .ok (.ifCond .eq 5, 3) := by decide +kernel
theorem dL_law_729 : decode cL_law 729 = .ok (.iconst 0, 1) := by decide +kernel
theorem dL_law_730 : decode cL_law 730 = .ok (.ireturn, 1) := by decide +kernel
theorem dL_law_731 : decode cL_law 731 = .ok (.goto 827, 3) := by decide +kernel
theorem dL_law_734 : decode cL_law 734 = .ok (.aload_n 1, 1) := by decide +kernel
theorem dL_law_735 : decode cL_law 735 = .ok (.aload_n 0, 1) := by decide +kernel
theorem dL_law_736 : decode cL_law 736 = .ok (.iload 4, 2) := by decide +kernel
theorem dL_law_738 : decode cL_law 738 = .ok (.iconst 1, 1) := by decide +kernel
theorem dL_law_739 : decode cL_law 739 = .ok (.iadd, 1) := by decide +kernel
theorem dL_law_740 : decode cL_law 740 = .ok (.iaload, 1) := by decide +kernel
theorem dL_law_741 : decode cL_law 741 = .ok (.aload_n 3, 1) := by decide +kernel
theorem dL_law_742 : decode cL_law 742 = .ok (.invokestatic 123, 3) := by decide +kernel
theorem dL_law_745 : decode cL_law 745 = .ok (.istore 5, 2) := by decide +kernel
theorem dL_law_747 : decode cL_law 747 = .ok (.aload_n 2, 1) := by decide +kernel
theorem dL_law_748 : decode cL_law 748 = .ok (.aload_n 0, 1) := by decide +kernel
theorem dL_law_749 : decode cL_law 749 = .ok (.iload 4, 2) := by decide +kernel
theorem dL_law_751 : decode cL_law 751 = .ok (.iconst 1, 1) := by decide +kernel
theorem dL_law_752 : decode cL_law 752 = .ok (.iadd, 1) := by decide +kernel
theorem dL_law_753 : decode cL_law 753 = .ok (.iaload, 1) := by decide +kernel
theorem dL_law_754 : decode cL_law 754 = .ok (.invokevirtual 125, 3) := by decide +kernel
theorem dL_law_757 : decode cL_law 757 = .ok (.istore 6, 2) := by decide +kernel
theorem dL_law_759 : decode cL_law 759 = .ok (.aload_n 2, 1) := by decide +kernel
theorem dL_law_760 : decode cL_law 760 = .ok (.invokevirtual 89, 3) := by decide +kernel
theorem dL_law_763 : decode cL_law 763 = .ok (.iload 5, 2) := by decide +kernel
theorem dL_law_765 : decode cL_law 765 = .ok (.if_icmp .eq 5, 3) := by decide +kernel
theorem dL_law_768 : decode cL_law 768 = .ok (.iconst 0, 1) := by decide +kernel
theorem dL_law_769 : decode cL_law 769 = .ok (.ireturn, 1) := by decide +kernel
theorem dL_law_770 : decode cL_law 770 = .ok (.iload 5, 2) := by decide +kernel
theorem dL_law_772 : decode cL_law 772 = .ok (.ifCond .ne 15, 3) := by decide +kernel
theorem dL_law_775 : decode cL_law 775 = .ok (.aload_n 3, 1) := by decide +kernel
theorem dL_law_776 : decode cL_law 776 = .ok (.iconst 0, 1) := by decide +kernel
theorem dL_law_777 : decode cL_law 777 = .ok (.laload, 1) := by decide +kernel
theorem dL_law_778 : decode cL_law 778 = .ok (.iload 6, 2) := by decide +kernel
theorem dL_law_780 : decode cL_law 780 = .ok (.i2l, 1) := by decide +kernel
theorem dL_law_781 : decode cL_law 781 = .ok (.lcmp, 1) := by decide +kernel
theorem dL_law_782 : decode cL_law 782 = .ok (.ifCond .eq 5, 3) := by decide +kernel
theorem dL_law_785 : decode cL_law 785 = .ok (.iconst 0, 1) := by decide +kernel
theorem dL_law_786 : decode cL_law 786 = .ok (.ireturn, 1) := by decide +kernel
theorem dL_law_787 : decode cL_law 787 = .ok (.goto 771, 3) := by decide +kernel
theorem dL_law_790 : decode cL_law 790 = .ok (.aload_n 1, 1) := by decide +kernel
theorem dL_law_791 : decode cL_law 791 = .ok (.aload_n 0, 1) := by decide +kernel
theorem dL_law_792 : decode cL_law 792 = .ok (.iload 4, 2) := by decide +kernel
theorem dL_law_794 : decode cL_law 794 = .ok (.iconst 1, 1) := by decide +kernel
theorem dL_law_795 : decode cL_law 795 = .ok (.iadd, 1) := by decide +kernel
theorem dL_law_796 : decode cL_law 796 = .ok (.iaload, 1) := by decide +kernel
theorem dL_law_797 : decode cL_law 797 = .ok (.aload_n 3, 1) := by decide +kernel
theorem dL_law_798 : decode cL_law 798 = .ok (.invokestatic 126, 3) := by decide +kernel
theorem dL_law_801 : decode cL_law 801 = .ok (.istore 5, 2) := by decide +kernel
theorem dL_law_803 : decode cL_law 803 = .ok (.aload_n 2, 1) := by decide +kernel
theorem dL_law_804 : decode cL_law 804 = .ok (.aload_n 0, 1) := by decide +kernel
theorem dL_law_805 : decode cL_law 805 = .ok (.iload 4, 2) := by decide +kernel
theorem dL_law_807 : decode cL_law 807 = .ok (.iconst 1, 1) := by decide +kernel
theorem dL_law_808 : decode cL_law 808 = .ok (.iadd, 1) := by decide +kernel
theorem dL_law_809 : decode cL_law 809 = .ok (.iaload, 1) := by decide +kernel
theorem dL_law_810 : decode cL_law 810 = .ok (.invokevirtual 128, 3) := by decide +kernel
theorem dL_law_813 : decode cL_law 813 = .ok (.istore 6, 2) := by decide +kernel
theorem dL_law_815 : decode cL_law 815 = .ok (.aload_n 2, 1) := by decide +kernel
theorem dL_law_816 : decode cL_law 816 = .ok (.invokevirtual 89, 3) := by decide +kernel
theorem dL_law_819 : decode cL_law 819 = .ok (.iload 5, 2) := by decide +kernel
theorem dL_law_821 : decode cL_law 821 = .ok (.if_icmp .eq 5, 3) := by decide +kernel
theorem dL_law_824 : decode cL_law 824 = .ok (.iconst 0, 1) := by decide +kernel
theorem dL_law_825 : decode cL_law 825 = .ok (.ireturn, 1) := by decide +kernel
theorem dL_law_826 : decode cL_law 826 = .ok (.iload 5, 2) := by decide +kernel
theorem dL_law_828 : decode cL_law 828 = .ok (.ifCond .ne 15, 3) := by decide +kernel
theorem dL_law_831 : decode cL_law 831 = .ok (.aload_n 3, 1) := by decide +kernel
theorem dL_law_832 : decode cL_law 832 = .ok (.iconst 0, 1) := by decide +kernel
theorem dL_law_833 : decode cL_law 833 = .ok (.laload, 1) := by decide +kernel
theorem dL_law_834 : decode cL_law 834 = .ok (.iload 6, 2) := by decide +kernel
theorem dL_law_836 : decode cL_law 836 = .ok (.i2l, 1) := by decide +kernel
theorem dL_law_837 : decode cL_law 837 = .ok (.lcmp, 1) := by decide +kernel
theorem dL_law_838 : decode cL_law 838 = .ok (.ifCond .eq 5, 3) := by decide +kernel
theorem dL_law_841 : decode cL_law 841 = .ok (.iconst 0, 1) := by decide +kernel
theorem dL_law_842 : decode cL_law 842 = .ok (.ireturn, 1) := by decide +kernel
theorem dL_law_843 : decode cL_law 843 = .ok (.goto 715, 3) := by decide +kernel
theorem dL_law_846 : decode cL_law 846 = .ok (.aload_n 1, 1) := by decide +kernel
theorem dL_law_847 : decode cL_law 847 = .ok (.aload_n 3, 1) := by decide +kernel
theorem dL_law_848 : decode cL_law 848 = .ok (.invokestatic 129, 3) := by decide +kernel
theorem dL_law_851 : decode cL_law 851 = .ok (.istore 5, 2) := by decide +kernel
theorem dL_law_853 : decode cL_law 853 = .ok (.aload_n 2, 1) := by decide +kernel
theorem dL_law_854 : decode cL_law 854 = .ok (.invokevirtual 132, 3) := by decide +kernel
theorem dL_law_857 : decode cL_law 857 = .ok (.istore 6, 2) := by decide +kernel
theorem dL_law_859 : decode cL_law 859 = .ok (.aload_n 2, 1) := by decide +kernel
theorem dL_law_860 : decode cL_law 860 = .ok (.invokevirtual 89, 3) := by decide +kernel
theorem dL_law_863 : decode cL_law 863 = .ok (.iload 5, 2) := by decide +kernel
theorem dL_law_865 : decode cL_law 865 = .ok (.if_icmp .eq 5, 3) := by decide +kernel
theorem dL_law_868 : decode cL_law 868 = .ok (.iconst 0, 1) := by decide +kernel
theorem dL_law_869 : decode cL_law 869 = .ok (.ireturn, 1) := by decide +kernel
theorem dL_law_870 : decode cL_law 870 = .ok (.iload 5, 2) := by decide +kernel
theorem dL_law_872 : decode cL_law 872 = .ok (.ifCond .ne 15, 3) := by decide +kernel
theorem dL_law_875 : decode cL_law 875 = .ok (.aload_n 3, 1) := by decide +kernel
theorem dL_law_876 : decode cL_law 876 = .ok (.iconst 0, 1) := by decide +kernel
theorem dL_law_877 : decode cL_law 877 = .ok (.laload, 1) := by decide +kernel
theorem dL_law_878 : decode cL_law 878 = .ok (.iload 6, 2) := by decide +kernel
theorem dL_law_880 : decode cL_law 880 = .ok (.i2l, 1) := by decide +kernel
theorem dL_law_881 : decode cL_law 881 = .ok (.lcmp, 1) := by decide +kernel
theorem dL_law_882 : decode cL_law 882 = .ok (.ifCond .eq 5, 3) := by decide +kernel
theorem dL_law_885 : decode cL_law 885 = .ok (.iconst 0, 1) := by decide +kernel
theorem dL_law_886 : decode cL_law 886 = .ok (.ireturn, 1) := by decide +kernel
theorem dL_law_887 : decode cL_law 887 = .ok (.goto 671, 3) := by decide +kernel
theorem dL_law_890 : decode cL_law 890 = .ok (.aload_n 1, 1) := by decide +kernel
theorem dL_law_891 : decode cL_law 891 = .ok (.aload_n 0, 1) := by decide +kernel
theorem dL_law_892 : decode cL_law 892 = .ok (.iload 4, 2) := by decide +kernel
theorem dL_law_894 : decode cL_law 894 = .ok (.iconst 1, 1) := by decide +kernel
theorem dL_law_895 : decode cL_law 895 = .ok (.iadd, 1) := by decide +kernel
theorem dL_law_896 : decode cL_law 896 = .ok (.iaload, 1) := by decide +kernel
theorem dL_law_897 : decode cL_law 897 = .ok (.aload_n 0, 1) := by decide +kernel
theorem dL_law_898 : decode cL_law 898 = .ok (.iload 4, 2) := by decide +kernel
theorem dL_law_900 : decode cL_law 900 = .ok (.iconst 2, 1) := by decide +kernel
theorem dL_law_901 : decode cL_law 901 = .ok (.iadd, 1) := by decide +kernel
theorem dL_law_902 : decode cL_law 902 = .ok (.iaload, 1) := by decide +kernel
theorem dL_law_903 : decode cL_law 903 = .ok (.aload_n 3, 1) := by decide +kernel
theorem dL_law_904 : decode cL_law 904 = .ok (.invokestatic 133, 3) := by decide +kernel
theorem dL_law_907 : decode cL_law 907 = .ok (.istore 5, 2) := by decide +kernel
theorem dL_law_909 : decode cL_law 909 = .ok (.aload_n 2, 1) := by decide +kernel
theorem dL_law_910 : decode cL_law 910 = .ok (.aload_n 0, 1) := by decide +kernel
theorem dL_law_911 : decode cL_law 911 = .ok (.iload 4, 2) := by decide +kernel
theorem dL_law_913 : decode cL_law 913 = .ok (.iconst 1, 1) := by decide +kernel
theorem dL_law_914 : decode cL_law 914 = .ok (.iadd, 1) := by decide +kernel
theorem dL_law_915 : decode cL_law 915 = .ok (.iaload, 1) := by decide +kernel
theorem dL_law_916 : decode cL_law 916 = .ok (.aload_n 0, 1) := by decide +kernel
theorem dL_law_917 : decode cL_law 917 = .ok (.iload 4, 2) := by decide +kernel
theorem dL_law_919 : decode cL_law 919 = .ok (.iconst 2, 1) := by decide +kernel
theorem dL_law_920 : decode cL_law 920 = .ok (.iadd, 1) := by decide +kernel
theorem dL_law_921 : decode cL_law 921 = .ok (.iaload, 1) := by decide +kernel
theorem dL_law_922 : decode cL_law 922 = .ok (.invokevirtual 135, 3) := by decide +kernel
theorem dL_law_925 : decode cL_law 925 = .ok (.istore 6, 2) := by decide +kernel
theorem dL_law_927 : decode cL_law 927 = .ok (.aload_n 2, 1) := by decide +kernel
theorem dL_law_928 : decode cL_law 928 = .ok (.invokevirtual 89, 3) := by decide +kernel
theorem dL_law_931 : decode cL_law 931 = .ok (.iload 5, 2) := by decide +kernel
theorem dL_law_933 : decode cL_law 933 = .ok (.if_icmp .eq 5, 3) := by decide +kernel
theorem dL_law_936 : decode cL_law 936 = .ok (.iconst 0, 1) := by decide +kernel
theorem dL_law_937 : decode cL_law 937 = .ok (.ireturn, 1) := by decide +kernel
theorem dL_law_938 : decode cL_law 938 = .ok (.iload 5, 2) := by decide +kernel
theorem dL_law_940 : decode cL_law 940 = .ok (.ifCond .ne 15, 3) := by decide +kernel
theorem dL_law_943 : decode cL_law 943 = .ok (.aload_n 3, 1) := by decide +kernel
theorem dL_law_944 : decode cL_law 944 = .ok (.iconst 0, 1) := by decide +kernel
theorem dL_law_945 : decode cL_law 945 = .ok (.laload, 1) := by decide +kernel
theorem dL_law_946 : decode cL_law 946 = .ok (.iload 6, 2) := by decide +kernel
theorem dL_law_948 : decode cL_law 948 = .ok (.i2l, 1) := by decide +kernel
theorem dL_law_949 : decode cL_law 949 = .ok (.lcmp, 1) := by decide +kernel
theorem dL_law_950 : decode cL_law 950 = .ok (.ifCond .eq 5, 3) := by decide +kernel
theorem dL_law_953 : decode cL_law 953 = .ok (.iconst 0, 1) := by decide +kernel
theorem dL_law_954 : decode cL_law 954 = .ok (.ireturn, 1) := by decide +kernel
theorem dL_law_955 : decode cL_law 955 = .ok (.goto 603, 3) := by decide +kernel
theorem dL_law_958 : decode cL_law 958 = .ok (.aload_n 1, 1) := by decide +kernel
theorem dL_law_959 : decode cL_law 959 = .ok (.aload_n 0, 1) := by decide +kernel
theorem dL_law_960 : decode cL_law 960 = .ok (.iload 4, 2) := by decide +kernel
theorem dL_law_962 : decode cL_law 962 = .ok (.iconst 1, 1) := by decide +kernel
theorem dL_law_963 : decode cL_law 963 = .ok (.iadd, 1) := by decide +kernel
theorem dL_law_964 : decode cL_law 964 = .ok (.iaload, 1) := by decide +kernel
theorem dL_law_965 : decode cL_law 965 = .ok (.aload_n 0, 1) := by decide +kernel
theorem dL_law_966 : decode cL_law 966 = .ok (.iload 4, 2) := by decide +kernel
theorem dL_law_968 : decode cL_law 968 = .ok (.iconst 2, 1) := by decide +kernel
theorem dL_law_969 : decode cL_law 969 = .ok (.iadd, 1) := by decide +kernel
theorem dL_law_970 : decode cL_law 970 = .ok (.iaload, 1) := by decide +kernel
theorem dL_law_971 : decode cL_law 971 = .ok (.aload_n 0, 1) := by decide +kernel
theorem dL_law_972 : decode cL_law 972 = .ok (.iload 4, 2) := by decide +kernel
theorem dL_law_974 : decode cL_law 974 = .ok (.iconst 3, 1) := by decide +kernel
theorem dL_law_975 : decode cL_law 975 = .ok (.iadd, 1) := by decide +kernel
theorem dL_law_976 : decode cL_law 976 = .ok (.iaload, 1) := by decide +kernel
theorem dL_law_977 : decode cL_law 977 = .ok (.aload_n 3, 1) := by decide +kernel
theorem dL_law_978 : decode cL_law 978 = .ok (.invokestatic 136, 3) := by decide +kernel
theorem dL_law_981 : decode cL_law 981 = .ok (.istore 5, 2) := by decide +kernel
theorem dL_law_983 : decode cL_law 983 = .ok (.aload_n 2, 1) := by decide +kernel
theorem dL_law_984 : decode cL_law 984 = .ok (.aload_n 0, 1) := by decide +kernel
theorem dL_law_985 : decode cL_law 985 = .ok (.iload 4, 2) := by decide +kernel
theorem dL_law_987 : decode cL_law 987 = .ok (.iconst 1, 1) := by decide +kernel
theorem dL_law_988 : decode cL_law 988 = .ok (.iadd, 1) := by decide +kernel
theorem dL_law_989 : decode cL_law 989 = .ok (.iaload, 1) := by decide +kernel
theorem dL_law_990 : decode cL_law 990 = .ok (.aload_n 0, 1) := by decide +kernel
theorem dL_law_991 : decode cL_law 991 = .ok (.iload 4, 2) := by decide +kernel
theorem dL_law_993 : decode cL_law 993 = .ok (.iconst 2, 1) := by decide +kernel
theorem dL_law_994 : decode cL_law 994 = .ok (.iadd, 1) := by decide +kernel
theorem dL_law_995 : decode cL_law 995 = .ok (.iaload, 1) := by decide +kernel
theorem dL_law_996 : decode cL_law 996 = .ok (.aload_n 0, 1) := by decide +kernel
theorem dL_law_997 : decode cL_law 997 = .ok (.iload 4, 2) := by decide +kernel
theorem dL_law_999 : decode cL_law 999 = .ok (.iconst 3, 1) := by decide +kernel
theorem dL_law_1000 : decode cL_law 1000 = .ok (.iadd, 1) := by decide +kernel
theorem dL_law_1001 : decode cL_law 1001 = .ok (.iaload, 1) := by decide +kernel
theorem dL_law_1002 : decode cL_law 1002 = .ok (.invokevirtual 138, 3) := by decide +kernel
theorem dL_law_1005 : decode cL_law 1005 = .ok (.istore 6, 2) := by decide +kernel
theorem dL_law_1007 : decode cL_law 1007 = .ok (.aload_n 2, 1) := by decide +kernel
theorem dL_law_1008 : decode cL_law 1008 = .ok (.invokevirtual 89, 3) := by decide +kernel
theorem dL_law_1011 : decode cL_law 1011 = .ok (.iload 5, 2) := by decide +kernel
theorem dL_law_1013 : decode cL_law 1013 = .ok (.if_icmp .eq 5, 3) := by decide +kernel
theorem dL_law_1016 : decode cL_law 1016 = .ok (.iconst 0, 1) := by decide +kernel
theorem dL_law_1017 : decode cL_law 1017 = .ok (.ireturn, 1) := by decide +kernel
theorem dL_law_1018 : decode cL_law 1018 = .ok (.iload 5, 2) := by decide +kernel
theorem dL_law_1020 : decode cL_law 1020 = .ok (.ifCond .ne 15, 3) := by decide +kernel
theorem dL_law_1023 : decode cL_law 1023 = .ok (.aload_n 3, 1) := by decide +kernel
theorem dL_law_1024 : decode cL_law 1024 = .ok (.iconst 0, 1) := by decide +kernel
theorem dL_law_1025 : decode cL_law 1025 = .ok (.laload, 1) := by decide +kernel
theorem dL_law_1026 : decode cL_law 1026 = .ok (.iload 6, 2) := by decide +kernel
theorem dL_law_1028 : decode cL_law 1028 = .ok (.i2l, 1) := by decide +kernel
theorem dL_law_1029 : decode cL_law 1029 = .ok (.lcmp, 1) := by decide +kernel
theorem dL_law_1030 : decode cL_law 1030 = .ok (.ifCond .eq 5, 3) := by decide +kernel
theorem dL_law_1033 : decode cL_law 1033 = .ok (.iconst 0, 1) := by decide +kernel
theorem dL_law_1034 : decode cL_law 1034 = .ok (.ireturn, 1) := by decide +kernel
theorem dL_law_1035 : decode cL_law 1035 = .ok (.goto 523, 3) := by decide +kernel
theorem dL_law_1038 : decode cL_law 1038 = .ok (.aload_n 1, 1) := by decide +kernel
theorem dL_law_1039 : decode cL_law 1039 = .ok (.aload_n 0, 1) := by decide +kernel
theorem dL_law_1040 : decode cL_law 1040 = .ok (.iload 4, 2) := by decide +kernel
theorem dL_law_1042 : decode cL_law 1042 = .ok (.iconst 1, 1) := by decide +kernel
theorem dL_law_1043 : decode cL_law 1043 = .ok (.iadd, 1) := by decide +kernel
theorem dL_law_1044 : decode cL_law 1044 = .ok (.iaload, 1) := by decide +kernel
theorem dL_law_1045 : decode cL_law 1045 = .ok (.aload_n 0, 1) := by decide +kernel
theorem dL_law_1046 : decode cL_law 1046 = .ok (.iload 4, 2) := by decide +kernel
theorem dL_law_1048 : decode cL_law 1048 = .ok (.iconst 2, 1) := by decide +kernel
theorem dL_law_1049 : decode cL_law 1049 = .ok (.iadd, 1) := by decide +kernel
theorem dL_law_1050 : decode cL_law 1050 = .ok (.iaload, 1) := by decide +kernel
theorem dL_law_1051 : decode cL_law 1051 = .ok (.aload_n 0, 1) := by decide +kernel
theorem dL_law_1052 : decode cL_law 1052 = .ok (.iload 4, 2) := by decide +kernel
theorem dL_law_1054 : decode cL_law 1054 = .ok (.iconst 3, 1) := by decide +kernel
theorem dL_law_1055 : decode cL_law 1055 = .ok (.iadd, 1) := by decide +kernel
theorem dL_law_1056 : decode cL_law 1056 = .ok (.iaload, 1) := by decide +kernel
theorem dL_law_1057 : decode cL_law 1057 = .ok (.aload_n 3, 1) := by decide +kernel
theorem dL_law_1058 : decode cL_law 1058 = .ok (.invokestatic 139, 3) := by decide +kernel
theorem dL_law_1061 : decode cL_law 1061 = .ok (.istore 5, 2) := by decide +kernel
theorem dL_law_1063 : decode cL_law 1063 = .ok (.aload_n 2, 1) := by decide +kernel
theorem dL_law_1064 : decode cL_law 1064 = .ok (.aload_n 0, 1) := by decide +kernel
theorem dL_law_1065 : decode cL_law 1065 = .ok (.iload 4, 2) := by decide +kernel
theorem dL_law_1067 : decode cL_law 1067 = .ok (.iconst 1, 1) := by decide +kernel
theorem dL_law_1068 : decode cL_law 1068 = .ok (.iadd, 1) := by decide +kernel
theorem dL_law_1069 : decode cL_law 1069 = .ok (.iaload, 1) := by decide +kernel
theorem dL_law_1070 : decode cL_law 1070 = .ok (.aload_n 0, 1) := by decide +kernel
theorem dL_law_1071 : decode cL_law 1071 = .ok (.iload 4, 2) := by decide +kernel
theorem dL_law_1073 : decode cL_law 1073 = .ok (.iconst 2, 1) := by decide +kernel
theorem dL_law_1074 : decode cL_law 1074 = .ok (.iadd, 1) := by decide +kernel
theorem dL_law_1075 : decode cL_law 1075 = .ok (.iaload, 1) := by decide +kernel
theorem dL_law_1076 : decode cL_law 1076 = .ok (.aload_n 0, 1) := by decide +kernel
theorem dL_law_1077 : decode cL_law 1077 = .ok (.iload 4, 2) := by decide +kernel
theorem dL_law_1079 : decode cL_law 1079 = .ok (.iconst 3, 1) := by decide +kernel
theorem dL_law_1080 : decode cL_law 1080 = .ok (.iadd, 1) := by decide +kernel
theorem dL_law_1081 : decode cL_law 1081 = .ok (.iaload, 1) := by decide +kernel
theorem dL_law_1082 : decode cL_law 1082 = .ok (.invokevirtual 141, 3) := by decide +kernel
theorem dL_law_1085 : decode cL_law 1085 = .ok (.istore 6, 2) := by decide +kernel
theorem dL_law_1087 : decode cL_law 1087 = .ok (.aload_n 2, 1) := by decide +kernel
theorem dL_law_1088 : decode cL_law 1088 = .ok (.invokevirtual 89, 3) := by decide +kernel
theorem dL_law_1091 : decode cL_law 1091 = .ok (.iload 5, 2) := by decide +kernel
theorem dL_law_1093 : decode cL_law 1093 = .ok (.if_icmp .eq 5, 3) := by decide +kernel
theorem dL_law_1096 : decode cL_law 1096 = .ok (.iconst 0, 1) := by decide +kernel
theorem dL_law_1097 : decode cL_law 1097 = .ok (.ireturn, 1) := by decide +kernel
theorem dL_law_1098 : decode cL_law 1098 = .ok (.iload 5, 2) := by decide +kernel
theorem dL_law_1100 : decode cL_law 1100 = .ok (.ifCond .ne 15, 3) := by decide +kernel
theorem dL_law_1103 : decode cL_law 1103 = .ok (.aload_n 3, 1) := by decide +kernel
theorem dL_law_1104 : decode cL_law 1104 = .ok (.iconst 0, 1) := by decide +kernel
theorem dL_law_1105 : decode cL_law 1105 = .ok (.laload, 1) := by decide +kernel
theorem dL_law_1106 : decode cL_law 1106 = .ok (.iload 6, 2) := by decide +kernel
theorem dL_law_1108 : decode cL_law 1108 = .ok (.i2l, 1) := by decide +kernel
theorem dL_law_1109 : decode cL_law 1109 = .ok (.lcmp, 1) := by decide +kernel
theorem dL_law_1110 : decode cL_law 1110 = .ok (.ifCond .eq 5, 3) := by decide +kernel
theorem dL_law_1113 : decode cL_law 1113 = .ok (.iconst 0, 1) := by decide +kernel
theorem dL_law_1114 : decode cL_law 1114 = .ok (.ireturn, 1) := by decide +kernel
theorem dL_law_1115 : decode cL_law 1115 = .ok (.goto 443, 3) := by decide +kernel
theorem dL_law_1118 : decode cL_law 1118 = .ok (.aload_n 1, 1) := by decide +kernel
theorem dL_law_1119 : decode cL_law 1119 = .ok (.aload_n 0, 1) := by decide +kernel
theorem dL_law_1120 : decode cL_law 1120 = .ok (.iload 4, 2) := by decide +kernel
theorem dL_law_1122 : decode cL_law 1122 = .ok (.iconst 1, 1) := by decide +kernel
theorem dL_law_1123 : decode cL_law 1123 = .ok (.iadd, 1) := by decide +kernel
theorem dL_law_1124 : decode cL_law 1124 = .ok (.iaload, 1) := by decide +kernel
theorem dL_law_1125 : decode cL_law 1125 = .ok (.aload_n 0, 1) := by decide +kernel
theorem dL_law_1126 : decode cL_law 1126 = .ok (.iload 4, 2) := by decide +kernel
theorem dL_law_1128 : decode cL_law 1128 = .ok (.iconst 2, 1) := by decide +kernel
theorem dL_law_1129 : decode cL_law 1129 = .ok (.iadd, 1) := by decide +kernel
theorem dL_law_1130 : decode cL_law 1130 = .ok (.iaload, 1) := by decide +kernel
theorem dL_law_1131 : decode cL_law 1131 = .ok (.aload_n 3, 1) := by decide +kernel
theorem dL_law_1132 : decode cL_law 1132 = .ok (.invokestatic 142, 3) := by decide +kernel
theorem dL_law_1135 : decode cL_law 1135 = .ok (.istore 5, 2) := by decide +kernel
theorem dL_law_1137 : decode cL_law 1137 = .ok (.aload_n 2, 1) := by decide +kernel
theorem dL_law_1138 : decode cL_law 1138 = .ok (.aload_n 0, 1) := by decide +kernel
theorem dL_law_1139 : decode cL_law 1139 = .ok (.iload 4, 2) := by decide +kernel
theorem dL_law_1141 : decode cL_law 1141 = .ok (.iconst 1, 1) := by decide +kernel
theorem dL_law_1142 : decode cL_law 1142 = .ok (.iadd, 1) := by decide +kernel
theorem dL_law_1143 : decode cL_law 1143 = .ok (.iaload, 1) := by decide +kernel
theorem dL_law_1144 : decode cL_law 1144 = .ok (.aload_n 0, 1) := by decide +kernel
theorem dL_law_1145 : decode cL_law 1145 = .ok (.iload 4, 2) := by decide +kernel
theorem dL_law_1147 : decode cL_law 1147 = .ok (.iconst 2, 1) := by decide +kernel
theorem dL_law_1148 : decode cL_law 1148 = .ok (.iadd, 1) := by decide +kernel
theorem dL_law_1149 : decode cL_law 1149 = .ok (.iaload, 1) := by decide +kernel
theorem dL_law_1150 : decode cL_law 1150 = .ok (.invokevirtual 144, 3) := by decide +kernel
theorem dL_law_1153 : decode cL_law 1153 = .ok (.istore 6, 2) := by decide +kernel
theorem dL_law_1155 : decode cL_law 1155 = .ok (.aload_n 2, 1) := by decide +kernel
theorem dL_law_1156 : decode cL_law 1156 = .ok (.invokevirtual 89, 3) := by decide +kernel
theorem dL_law_1159 : decode cL_law 1159 = .ok (.iload 5, 2) := by decide +kernel
theorem dL_law_1161 : decode cL_law 1161 = .ok (.if_icmp .eq 5, 3) := by decide +kernel
theorem dL_law_1164 : decode cL_law 1164 = .ok (.iconst 0, 1) := by decide +kernel
theorem dL_law_1165 : decode cL_law 1165 = .ok (.ireturn, 1) := by decide +kernel
theorem dL_law_1166 : decode cL_law 1166 = .ok (.iload 5, 2) := by decide +kernel
theorem dL_law_1168 : decode cL_law 1168 = .ok (.ifCond .ne 15, 3) := by decide +kernel
theorem dL_law_1171 : decode cL_law 1171 = .ok (.aload_n 3, 1) := by decide +kernel
theorem dL_law_1172 : decode cL_law 1172 = .ok (.iconst 0, 1) := by decide +kernel
theorem dL_law_1173 : decode cL_law 1173 = .ok (.laload, 1) := by decide +kernel
theorem dL_law_1174 : decode cL_law 1174 = .ok (.iload 6, 2) := by decide +kernel
theorem dL_law_1176 : decode cL_law 1176 = .ok (.i2l, 1) := by decide +kernel
theorem dL_law_1177 : decode cL_law 1177 = .ok (.lcmp, 1) := by decide +kernel
theorem dL_law_1178 : decode cL_law 1178 = .ok (.ifCond .eq 5, 3) := by decide +kernel
theorem dL_law_1181 : decode cL_law 1181 = .ok (.iconst 0, 1) := by decide +kernel
theorem dL_law_1182 : decode cL_law 1182 = .ok (.ireturn, 1) := by decide +kernel
theorem dL_law_1183 : decode cL_law 1183 = .ok (.goto 375, 3) := by decide +kernel
theorem dL_law_1186 : decode cL_law 1186 = .ok (.aload_n 1, 1) := by decide +kernel
theorem dL_law_1187 : decode cL_law 1187 = .ok (.aload_n 0, 1) := by decide +kernel
theorem dL_law_1188 : decode cL_law 1188 = .ok (.iload 4, 2) := by decide +kernel
theorem dL_law_1190 : decode cL_law 1190 = .ok (.iconst 1, 1) := by decide +kernel
theorem dL_law_1191 : decode cL_law 1191 = .ok (.iadd, 1) := by decide +kernel
theorem dL_law_1192 : decode cL_law 1192 = .ok (.iaload, 1) := by decide +kernel
theorem dL_law_1193 : decode cL_law 1193 = .ok (.aload_n 3, 1) := by decide +kernel
theorem dL_law_1194 : decode cL_law 1194 = .ok (.invokestatic 145, 3) := by decide +kernel
theorem dL_law_1197 : decode cL_law 1197 = .ok (.istore 5, 2) := by decide +kernel
theorem dL_law_1199 : decode cL_law 1199 = .ok (.aload_n 2, 1) := by decide +kernel
theorem dL_law_1200 : decode cL_law 1200 = .ok (.aload_n 0, 1) := by decide +kernel
theorem dL_law_1201 : decode cL_law 1201 = .ok (.iload 4, 2) := by decide +kernel
theorem dL_law_1203 : decode cL_law 1203 = .ok (.iconst 1, 1) := by decide +kernel
theorem dL_law_1204 : decode cL_law 1204 = .ok (.iadd, 1) := by decide +kernel
theorem dL_law_1205 : decode cL_law 1205 = .ok (.iaload, 1) := by decide +kernel
theorem dL_law_1206 : decode cL_law 1206 = .ok (.invokevirtual 147, 3) := by decide +kernel
theorem dL_law_1209 : decode cL_law 1209 = .ok (.istore 6, 2) := by decide +kernel
theorem dL_law_1211 : decode cL_law 1211 = .ok (.aload_n 2, 1) := by decide +kernel
theorem dL_law_1212 : decode cL_law 1212 = .ok (.invokevirtual 89, 3) := by decide +kernel
theorem dL_law_1215 : decode cL_law 1215 = .ok (.iload 5, 2) := by decide +kernel
theorem dL_law_1217 : decode cL_law 1217 = .ok (.if_icmp .eq 5, 3) := by decide +kernel
theorem dL_law_1220 : decode cL_law 1220 = .ok (.iconst 0, 1) := by decide +kernel
theorem dL_law_1221 : decode cL_law 1221 = .ok (.ireturn, 1) := by decide +kernel
theorem dL_law_1222 : decode cL_law 1222 = .ok (.iload 5, 2) := by decide +kernel
theorem dL_law_1224 : decode cL_law 1224 = .ok (.ifCond .ne 15, 3) := by decide +kernel
theorem dL_law_1227 : decode cL_law 1227 = .ok (.aload_n 3, 1) := by decide +kernel
theorem dL_law_1228 : decode cL_law 1228 = .ok (.iconst 0, 1) := by decide +kernel
theorem dL_law_1229 : decode cL_law 1229 = .ok (.laload, 1) := by decide +kernel
theorem dL_law_1230 : decode cL_law 1230 = .ok (.iload 6, 2) := by decide +kernel
theorem dL_law_1232 : decode cL_law 1232 = .ok (.i2l, 1) := by decide +kernel
theorem dL_law_1233 : decode cL_law 1233 = .ok (.lcmp, 1) := by decide +kernel
theorem dL_law_1234 : decode cL_law 1234 = .ok (.ifCond .eq 5, 3) := by decide +kernel
theorem dL_law_1237 : decode cL_law 1237 = .ok (.iconst 0, 1) := by decide +kernel
theorem dL_law_1238 : decode cL_law 1238 = .ok (.ireturn, 1) := by decide +kernel
theorem dL_law_1239 : decode cL_law 1239 = .ok (.goto 319, 3) := by decide +kernel
theorem dL_law_1242 : decode cL_law 1242 = .ok (.aload_n 1, 1) := by decide +kernel
theorem dL_law_1243 : decode cL_law 1243 = .ok (.aload_n 0, 1) := by decide +kernel
theorem dL_law_1244 : decode cL_law 1244 = .ok (.iload 4, 2) := by decide +kernel
theorem dL_law_1246 : decode cL_law 1246 = .ok (.iconst 1, 1) := by decide +kernel
theorem dL_law_1247 : decode cL_law 1247 = .ok (.iadd, 1) := by decide +kernel
theorem dL_law_1248 : decode cL_law 1248 = .ok (.iaload, 1) := by decide +kernel
theorem dL_law_1249 : decode cL_law 1249 = .ok (.aload_n 3, 1) := by decide +kernel
theorem dL_law_1250 : decode cL_law 1250 = .ok (.invokestatic 148, 3) := by decide +kernel
theorem dL_law_1253 : decode cL_law 1253 = .ok (.istore 5, 2) := by decide +kernel
theorem dL_law_1255 : decode cL_law 1255 = .ok (.aload_n 2, 1) := by decide +kernel
theorem dL_law_1256 : decode cL_law 1256 = .ok (.aload_n 0, 1) := by decide +kernel
theorem dL_law_1257 : decode cL_law 1257 = .ok (.iload 4, 2) := by decide +kernel
theorem dL_law_1259 : decode cL_law 1259 = .ok (.iconst 1, 1) := by decide +kernel
theorem dL_law_1260 : decode cL_law 1260 = .ok (.iadd, 1) := by decide +kernel
theorem dL_law_1261 : decode cL_law 1261 = .ok (.iaload, 1) := by decide +kernel
theorem dL_law_1262 : decode cL_law 1262 = .ok (.invokevirtual 150, 3) := by decide +kernel
theorem dL_law_1265 : decode cL_law 1265 = .ok (.istore 6, 2) := by decide +kernel
theorem dL_law_1267 : decode cL_law 1267 = .ok (.aload_n 2, 1) := by decide +kernel
theorem dL_law_1268 : decode cL_law 1268 = .ok (.invokevirtual 89, 3) := by decide +kernel
theorem dL_law_1271 : decode cL_law 1271 = .ok (.iload 5, 2) := by decide +kernel
theorem dL_law_1273 : decode cL_law 1273 = .ok (.if_icmp .eq 5, 3) := by decide +kernel
theorem dL_law_1276 : decode cL_law 1276 = .ok (.iconst 0, 1) := by decide +kernel
theorem dL_law_1277 : decode cL_law 1277 = .ok (.ireturn, 1) := by decide +kernel
theorem dL_law_1278 : decode cL_law 1278 = .ok (.iload 5, 2) := by decide +kernel
theorem dL_law_1280 : decode cL_law 1280 = .ok (.ifCond .ne 15, 3) := by decide +kernel
theorem dL_law_1283 : decode cL_law 1283 = .ok (.aload_n 3, 1) := by decide +kernel
theorem dL_law_1284 : decode cL_law 1284 = .ok (.iconst 0, 1) := by decide +kernel
theorem dL_law_1285 : decode cL_law 1285 = .ok (.laload, 1) := by decide +kernel
theorem dL_law_1286 : decode cL_law 1286 = .ok (.iload 6, 2) := by decide +kernel
theorem dL_law_1288 : decode cL_law 1288 = .ok (.i2l, 1) := by decide +kernel
theorem dL_law_1289 : decode cL_law 1289 = .ok (.lcmp, 1) := by decide +kernel
theorem dL_law_1290 : decode cL_law 1290 = .ok (.ifCond .eq 5, 3) := by decide +kernel
theorem dL_law_1293 : decode cL_law 1293 = .ok (.iconst 0, 1) := by decide +kernel
theorem dL_law_1294 : decode cL_law 1294 = .ok (.ireturn, 1) := by decide +kernel
theorem dL_law_1295 : decode cL_law 1295 = .ok (.goto 263, 3) := by decide +kernel
theorem dL_law_1298 : decode cL_law 1298 = .ok (.aload_n 1, 1) := by decide +kernel
theorem dL_law_1299 : decode cL_law 1299 = .ok (.aload_n 0, 1) := by decide +kernel
theorem dL_law_1300 : decode cL_law 1300 = .ok (.iload 4, 2) := by decide +kernel
theorem dL_law_1302 : decode cL_law 1302 = .ok (.iconst 1, 1) := by decide +kernel
theorem dL_law_1303 : decode cL_law 1303 = .ok (.iadd, 1) := by decide +kernel
theorem dL_law_1304 : decode cL_law 1304 = .ok (.iaload, 1) := by decide +kernel
theorem dL_law_1305 : decode cL_law 1305 = .ok (.aload_n 3, 1) := by decide +kernel
theorem dL_law_1306 : decode cL_law 1306 = .ok (.invokestatic 151, 3) := by decide +kernel
theorem dL_law_1309 : decode cL_law 1309 = .ok (.istore 5, 2) := by decide +kernel
theorem dL_law_1311 : decode cL_law 1311 = .ok (.aload_n 2, 1) := by decide +kernel
theorem dL_law_1312 : decode cL_law 1312 = .ok (.aload_n 0, 1) := by decide +kernel
theorem dL_law_1313 : decode cL_law 1313 = .ok (.iload 4, 2) := by decide +kernel
theorem dL_law_1315 : decode cL_law 1315 = .ok (.iconst 1, 1) := by decide +kernel
theorem dL_law_1316 : decode cL_law 1316 = .ok (.iadd, 1) := by decide +kernel
theorem dL_law_1317 : decode cL_law 1317 = .ok (.iaload, 1) := by decide +kernel
theorem dL_law_1318 : decode cL_law 1318 = .ok (.invokevirtual 153, 3) := by decide +kernel
theorem dL_law_1321 : decode cL_law 1321 = .ok (.istore 6, 2) := by decide +kernel
theorem dL_law_1323 : decode cL_law 1323 = .ok (.aload_n 2, 1) := by decide +kernel
theorem dL_law_1324 : decode cL_law 1324 = .ok (.invokevirtual 89, 3) := by decide +kernel
theorem dL_law_1327 : decode cL_law 1327 = .ok (.iload 5, 2) := by decide +kernel
theorem dL_law_1329 : decode cL_law 1329 = .ok (.if_icmp .eq 5, 3) := by decide +kernel
theorem dL_law_1332 : decode cL_law 1332 = .ok (.iconst 0, 1) := by decide +kernel
theorem dL_law_1333 : decode cL_law 1333 = .ok (.ireturn, 1) := by decide +kernel
theorem dL_law_1334 : decode cL_law 1334 = .ok (.iload 5, 2) := by decide +kernel
theorem dL_law_1336 : decode cL_law 1336 = .ok (.ifCond .ne 15, 3) := by decide +kernel
theorem dL_law_1339 : decode cL_law 1339 = .ok (.aload_n 3, 1) := by decide +kernel
theorem dL_law_1340 : decode cL_law 1340 = .ok (.iconst 0, 1) := by decide +kernel
theorem dL_law_1341 : decode cL_law 1341 = .ok (.laload, 1) := by decide +kernel
theorem dL_law_1342 : decode cL_law 1342 = .ok (.iload 6, 2) := by decide +kernel
theorem dL_law_1344 : decode cL_law 1344 = .ok (.i2l, 1) := by decide +kernel
theorem dL_law_1345 : decode cL_law 1345 = .ok (.lcmp, 1) := by decide +kernel
theorem dL_law_1346 : decode cL_law 1346 = .ok (.ifCond .eq 5, 3) := by decide +kernel
theorem dL_law_1349 : decode cL_law 1349 = .ok (.iconst 0, 1) := by decide +kernel
theorem dL_law_1350 : decode cL_law 1350 = .ok (.ireturn, 1) := by decide +kernel
theorem dL_law_1351 : decode cL_law 1351 = .ok (.goto 207, 3) := by decide +kernel
theorem dL_law_1354 : decode cL_law 1354 = .ok (.aload_n 1, 1) := by decide +kernel
theorem dL_law_1355 : decode cL_law 1355 = .ok (.aload_n 0, 1) := by decide +kernel
theorem dL_law_1356 : decode cL_law 1356 = .ok (.iload 4, 2) := by decide +kernel
theorem dL_law_1358 : decode cL_law 1358 = .ok (.iconst 1, 1) := by decide +kernel
theorem dL_law_1359 : decode cL_law 1359 = .ok (.iadd, 1) := by decide +kernel
theorem dL_law_1360 : decode cL_law 1360 = .ok (.iaload, 1) := by decide +kernel
theorem dL_law_1361 : decode cL_law 1361 = .ok (.aload_n 0, 1) := by decide +kernel
theorem dL_law_1362 : decode cL_law 1362 = .ok (.iload 4, 2) := by decide +kernel
theorem dL_law_1364 : decode cL_law 1364 = .ok (.iconst 2, 1) := by decide +kernel
theorem dL_law_1365 : decode cL_law 1365 = .ok (.iadd, 1) := by decide +kernel
theorem dL_law_1366 : decode cL_law 1366 = .ok (.iaload, 1) := by decide +kernel
theorem dL_law_1367 : decode cL_law 1367 = .ok (.aload_n 0, 1) := by decide +kernel
theorem dL_law_1368 : decode cL_law 1368 = .ok (.iload 4, 2) := by decide +kernel
theorem dL_law_1370 : decode cL_law 1370 = .ok (.iconst 3, 1) := by decide +kernel
theorem dL_law_1371 : decode cL_law 1371 = .ok (.iadd, 1) := by decide +kernel
theorem dL_law_1372 : decode cL_law 1372 = .ok (.iaload, 1) := by decide +kernel
theorem dL_law_1373 : decode cL_law 1373 = .ok (.aload_n 3, 1) := by decide +kernel
theorem dL_law_1374 : decode cL_law 1374 = .ok (.invokestatic 154, 3) := by decide +kernel
theorem dL_law_1377 : decode cL_law 1377 = .ok (.istore 5, 2) := by decide +kernel
theorem dL_law_1379 : decode cL_law 1379 = .ok (.aload_n 2, 1) := by decide +kernel
theorem dL_law_1380 : decode cL_law 1380 = .ok (.aload_n 0, 1) := by decide +kernel
theorem dL_law_1381 : decode cL_law 1381 = .ok (.iload 4, 2) := by decide +kernel
theorem dL_law_1383 : decode cL_law 1383 = .ok (.iconst 1, 1) := by decide +kernel
theorem dL_law_1384 : decode cL_law 1384 = .ok (.iadd, 1) := by decide +kernel
theorem dL_law_1385 : decode cL_law 1385 = .ok (.iaload, 1) := by decide +kernel
theorem dL_law_1386 : decode cL_law 1386 = .ok (.aload_n 0, 1) := by decide +kernel
theorem dL_law_1387 : decode cL_law 1387 = .ok (.iload 4, 2) := by decide +kernel
theorem dL_law_1389 : decode cL_law 1389 = .ok (.iconst 2, 1) := by decide +kernel
theorem dL_law_1390 : decode cL_law 1390 = .ok (.iadd, 1) := by decide +kernel
theorem dL_law_1391 : decode cL_law 1391 = .ok (.iaload, 1) := by decide +kernel
theorem dL_law_1392 : decode cL_law 1392 = .ok (.aload_n 0, 1) := by decide +kernel
theorem dL_law_1393 : decode cL_law 1393 = .ok (.iload 4, 2) := by decide +kernel
theorem dL_law_1395 : decode cL_law 1395 = .ok (.iconst 3, 1) := by decide +kernel
theorem dL_law_1396 : decode cL_law 1396 = .ok (.iadd, 1) := by decide +kernel
theorem dL_law_1397 : decode cL_law 1397 = .ok (.iaload, 1) := by decide +kernel
theorem dL_law_1398 : decode cL_law 1398 = .ok (.invokevirtual 156, 3) := by decide +kernel
theorem dL_law_1401 : decode cL_law 1401 = .ok (.istore 6, 2) := by decide +kernel
theorem dL_law_1403 : decode cL_law 1403 = .ok (.aload_n 2, 1) := by decide +kernel
theorem dL_law_1404 : decode cL_law 1404 = .ok (.invokevirtual 89, 3) := by decide +kernel
theorem dL_law_1407 : decode cL_law 1407 = .ok (.iload 5, 2) := by decide +kernel
theorem dL_law_1409 : decode cL_law 1409 = .ok (.if_icmp .eq 5, 3) := by decide +kernel
theorem dL_law_1412 : decode cL_law 1412 = .ok (.iconst 0, 1) := by decide +kernel
theorem dL_law_1413 : decode cL_law 1413 = .ok (.ireturn, 1) := by decide +kernel
theorem dL_law_1414 : decode cL_law 1414 = .ok (.iload 5, 2) := by decide +kernel
theorem dL_law_1416 : decode cL_law 1416 = .ok (.ifCond .ne 15, 3) := by decide +kernel
theorem dL_law_1419 : decode cL_law 1419 = .ok (.aload_n 3, 1) := by decide +kernel
theorem dL_law_1420 : decode cL_law 1420 = .ok (.iconst 0, 1) := by decide +kernel
theorem dL_law_1421 : decode cL_law 1421 = .ok (.laload, 1) := by decide +kernel
theorem dL_law_1422 : decode cL_law 1422 = .ok (.iload 6, 2) := by decide +kernel
theorem dL_law_1424 : decode cL_law 1424 = .ok (.i2l, 1) := by decide +kernel
theorem dL_law_1425 : decode cL_law 1425 = .ok (.lcmp, 1) := by decide +kernel
theorem dL_law_1426 : decode cL_law 1426 = .ok (.ifCond .eq 5, 3) := by decide +kernel
theorem dL_law_1429 : decode cL_law 1429 = .ok (.iconst 0, 1) := by decide +kernel
theorem dL_law_1430 : decode cL_law 1430 = .ok (.ireturn, 1) := by decide +kernel
theorem dL_law_1431 : decode cL_law 1431 = .ok (.goto 127, 3) := by decide +kernel
theorem dL_law_1434 : decode cL_law 1434 = .ok (.aload_n 1, 1) := by decide +kernel
theorem dL_law_1435 : decode cL_law 1435 = .ok (.aload_n 0, 1) := by decide +kernel
theorem dL_law_1436 : decode cL_law 1436 = .ok (.iload 4, 2) := by decide +kernel
theorem dL_law_1438 : decode cL_law 1438 = .ok (.iconst 1, 1) := by decide +kernel
theorem dL_law_1439 : decode cL_law 1439 = .ok (.iadd, 1) := by decide +kernel
theorem dL_law_1440 : decode cL_law 1440 = .ok (.iaload, 1) := by decide +kernel
theorem dL_law_1441 : decode cL_law 1441 = .ok (.aload_n 3, 1) := by decide +kernel
theorem dL_law_1442 : decode cL_law 1442 = .ok (.invokestatic 157, 3) := by decide +kernel
theorem dL_law_1445 : decode cL_law 1445 = .ok (.istore 5, 2) := by decide +kernel
theorem dL_law_1447 : decode cL_law 1447 = .ok (.aload_n 2, 1) := by decide +kernel
theorem dL_law_1448 : decode cL_law 1448 = .ok (.aload_n 0, 1) := by decide +kernel
theorem dL_law_1449 : decode cL_law 1449 = .ok (.iload 4, 2) := by decide +kernel
theorem dL_law_1451 : decode cL_law 1451 = .ok (.iconst 1, 1) := by decide +kernel
theorem dL_law_1452 : decode cL_law 1452 = .ok (.iadd, 1) := by decide +kernel
theorem dL_law_1453 : decode cL_law 1453 = .ok (.iaload, 1) := by decide +kernel
theorem dL_law_1454 : decode cL_law 1454 = .ok (.invokevirtual 159, 3) := by decide +kernel
theorem dL_law_1457 : decode cL_law 1457 = .ok (.istore 6, 2) := by decide +kernel
theorem dL_law_1459 : decode cL_law 1459 = .ok (.aload_n 2, 1) := by decide +kernel
theorem dL_law_1460 : decode cL_law 1460 = .ok (.invokevirtual 89, 3) := by decide +kernel
theorem dL_law_1463 : decode cL_law 1463 = .ok (.iload 5, 2) := by decide +kernel
theorem dL_law_1465 : decode cL_law 1465 = .ok (.if_icmp .eq 5, 3) := by decide +kernel
theorem dL_law_1468 : decode cL_law 1468 = .ok (.iconst 0, 1) := by decide +kernel
theorem dL_law_1469 : decode cL_law 1469 = .ok (.ireturn, 1) := by decide +kernel
theorem dL_law_1470 : decode cL_law 1470 = .ok (.iload 5, 2) := by decide +kernel
theorem dL_law_1472 : decode cL_law 1472 = .ok (.ifCond .ne 15, 3) := by decide +kernel
theorem dL_law_1475 : decode cL_law 1475 = .ok (.aload_n 3, 1) := by decide +kernel
theorem dL_law_1476 : decode cL_law 1476 = .ok (.iconst 0, 1) := by decide +kernel
theorem dL_law_1477 : decode cL_law 1477 = .ok (.laload, 1) := by decide +kernel
theorem dL_law_1478 : decode cL_law 1478 = .ok (.iload 6, 2) := by decide +kernel
theorem dL_law_1480 : decode cL_law 1480 = .ok (.i2l, 1) := by decide +kernel
theorem dL_law_1481 : decode cL_law 1481 = .ok (.lcmp, 1) := by decide +kernel
theorem dL_law_1482 : decode cL_law 1482 = .ok (.ifCond .eq 5, 3) := by decide +kernel
theorem dL_law_1485 : decode cL_law 1485 = .ok (.iconst 0, 1) := by decide +kernel
theorem dL_law_1486 : decode cL_law 1486 = .ok (.ireturn, 1) := by decide +kernel
theorem dL_law_1487 : decode cL_law 1487 = .ok (.goto 71, 3) := by decide +kernel
theorem dL_law_1490 : decode cL_law 1490 = .ok (.aload_n 1, 1) := by decide +kernel
theorem dL_law_1491 : decode cL_law 1491 = .ok (.invokevirtual 160, 3) := by decide +kernel
theorem dL_law_1494 : decode cL_law 1494 = .ok (.aload_n 2, 1) := by decide +kernel
theorem dL_law_1495 : decode cL_law 1495 = .ok (.invokevirtual 163, 3) := by decide +kernel
theorem dL_law_1498 : decode cL_law 1498 = .ok (.if_icmp .eq 60, 3) := by decide +kernel
theorem dL_law_1501 : decode cL_law 1501 = .ok (.iconst 0, 1) := by decide +kernel
theorem dL_law_1502 : decode cL_law 1502 = .ok (.ireturn, 1) := by decide +kernel
theorem dL_law_1503 : decode cL_law 1503 = .ok (.aload_n 1, 1) := by decide +kernel
theorem dL_law_1504 : decode cL_law 1504 = .ok (.invokevirtual 164, 3) := by decide +kernel
theorem dL_law_1507 : decode cL_law 1507 = .ok (.dstore 5, 2) := by decide +kernel
theorem dL_law_1509 : decode cL_law 1509 = .ok (.aload_n 2, 1) := by decide +kernel
theorem dL_law_1510 : decode cL_law 1510 = .ok (.invokevirtual 168, 3) := by decide +kernel
theorem dL_law_1513 : decode cL_law 1513 = .ok (.dstore 7, 2) := by decide +kernel
theorem dL_law_1515 : decode cL_law 1515 = .ok (.dload 5, 2) := by decide +kernel
theorem dL_law_1517 : decode cL_law 1517 = .ok (.dload 7, 2) := by decide +kernel
theorem dL_law_1519 : decode cL_law 1519 = .ok (.dcmp .l, 1) := by decide +kernel
theorem dL_law_1520 : decode cL_law 1520 = .ok (.ifCond .eq 21, 3) := by decide +kernel
theorem dL_law_1523 : decode cL_law 1523 = .ok (.dload 5, 2) := by decide +kernel
theorem dL_law_1525 : decode cL_law 1525 = .ok (.dload 5, 2) := by decide +kernel
theorem dL_law_1527 : decode cL_law 1527 = .ok (.dcmp .l, 1) := by decide +kernel
theorem dL_law_1528 : decode cL_law 1528 = .ok (.ifCond .eq 11, 3) := by decide +kernel
theorem dL_law_1531 : decode cL_law 1531 = .ok (.dload 7, 2) := by decide +kernel
theorem dL_law_1533 : decode cL_law 1533 = .ok (.dload 7, 2) := by decide +kernel
theorem dL_law_1535 : decode cL_law 1535 = .ok (.dcmp .l, 1) := by decide +kernel
theorem dL_law_1536 : decode cL_law 1536 = .ok (.ifCond .ne 5, 3) := by decide +kernel
theorem dL_law_1539 : decode cL_law 1539 = .ok (.iconst 0, 1) := by decide +kernel
theorem dL_law_1540 : decode cL_law 1540 = .ok (.ireturn, 1) := by decide +kernel
theorem dL_law_1541 : decode cL_law 1541 = .ok (.goto 17, 3) := by decide +kernel
theorem dL_law_1544 : decode cL_law 1544 = .ok (.aload_n 1, 1) := by decide +kernel
theorem dL_law_1545 : decode cL_law 1545 = .ok (.invokevirtual 169, 3) := by decide +kernel
theorem dL_law_1548 : decode cL_law 1548 = .ok (.aload_n 2, 1) := by decide +kernel
theorem dL_law_1549 : decode cL_law 1549 = .ok (.invokevirtual 173, 3) := by decide +kernel
theorem dL_law_1552 : decode cL_law 1552 = .ok (.lcmp, 1) := by decide +kernel
theorem dL_law_1553 : decode cL_law 1553 = .ok (.ifCond .eq 5, 3) := by decide +kernel
theorem dL_law_1556 : decode cL_law 1556 = .ok (.iconst 0, 1) := by decide +kernel
theorem dL_law_1557 : decode cL_law 1557 = .ok (.ireturn, 1) := by decide +kernel
theorem dL_law_1558 : decode cL_law 1558 = .ok (.iinc 4 4, 3) := by decide +kernel
theorem dL_law_1561 : decode cL_law 1561 = .ok (.goto (-1538), 3) := by decide +kernel
theorem dL_law_1564 : decode cL_law 1564 = .ok (.iconst 1, 1) := by decide +kernel
theorem dL_law_1565 : decode cL_law 1565 = .ok (.ireturn, 1) := by decide +kernel
end
section
/-! OWN ROWS: contracts over one list of words (G); worlds that keep their addresses; a call by its contract, the world's cells by their places -/
abbrev GG : Type := va_G × (Nat → ClassId)
abbrev tyz (g : GG) : List (ClassId × FieldType) := [(g.2 0, .int), (g.2 1, .boolean), (g.2 2, .object "KernLessons$State"), (g.2 3, .long)]
abbrev KK (g : GG) (U : State) : Prop := va_K g.1 vwCl (tyz g) U
abbrev PP (g : GG) (w : va_W) (H : Heap) : Prop := va_P g.1 vwCl w H
def inW (w : va_W) : Nat → Prop := fun q => ∃ (k : Nat) (e : va_E), w[k]? = some (q, e)
/-- a reader's end: what it answers; the heap as before -/
def QR (V : Option Value) : Array Value → State → Outcome → State → Prop := fun _ st o t => o = .returned V ∧ t.heap = st.heap
/-- a writer's end: what it answers; its world's cells, at the same addresses; all else as before -/
def QW (g : GG) (w w' : va_W) (V : Option Value) : Array Value → State → Outcome → State → Prop := fun _ st o t =>
  o = .returned V ∧ PP g w' t.heap ∧ st.heap.size ≤ t.heap.size ∧ ∀ q : Nat, q < st.heap.size → ¬ inW w q → t.heap[q]? = st.heap[q]?
def MR (l : Launch) (g : GG) (y : MethodName) (cb : ByteArray) (n : Nat) (r : Option FieldType) (rm : Room) (as : List Value) (w : va_W) (V : Option Value) : Prop :=
  Met l y (Cond.code y cb n r :: G) rm (va_Pc as (fun U => PP g w U.heap ∧ KK g U)) (QR V) 0 0 (fun _ => False)
def MW (l : Launch) (g : GG) (y : MethodName) (cb : ByteArray) (n : Nat) (r : Option FieldType) (rm : Room) (as : List Value) (w w' : va_W) (V : Option Value) : Prop :=
  Met l y (Cond.code y cb n r :: G) rm (va_Pc as (fun U => PP g w U.heap ∧ KK g U ∧ va_D (fun _ => True) w)) (QW g w w' V) 0 0 (inW w)
/-- the words of a method that is called: its code, its class initialised, how many arguments -/
abbrev CW (y : MethodName) (cb : ByteArray) (n : Nat) (r : Option FieldType) (k : Nat) : Prop :=
  Cond.code y cb n r ∈ G ∧ Cond.initialized y.cls ∈ G ∧ (y.cls ≠ "java/lang/invoke/MethodHandle" ∧ y.cls ≠ "java/lang/invoke/VarHandle" ∧ (parseMethodDescriptor y.desc).map (fun d => d.parameters.length) = some k)
abbrev CWV (y : MethodName) (cb : ByteArray) (n : Nat) (r : Option FieldType) (k : Nat) : Prop := CW y cb n r k ∧ Cond.instanceMethod y ∈ G ∧ Cond.selects y.cls y y ∈ G
abbrev CWS (y : MethodName) (cb : ByteArray) (n : Nat) (r : Option FieldType) (k : Nat) : Prop := CW y cb n r k ∧ Cond.static y ∈ G
abbrev RM (rm R : Room) (n : Nat) : Prop := rm.frames + 1 ≤ R.frames ∧ 8 + (n + 11) + rm.locals ≤ R.locals ∧ rm.cells = 0 ∧ rm.slots = 0
/-- a world with other cells at some places -/
def wput : va_W → List Nat → va_W → va_W
  | ws, i :: is, x :: xs => wput (ws.set i x) is xs
  | ws, _, _ => ws
theorem wput_get : ∀ (is : List Nat) (xs ws : va_W), is.length = xs.length → ∀ (k : Nat) (q : Nat × va_E), (wput ws is xs)[k]? = some q →
    (∃ j : Nat, is[j]? = some k ∧ xs[j]? = some q) ∨ (k ∉ is ∧ ws[k]? = some q)
  | [], xs, ws, _, k, q, h => by
    cases xs <;> exact Or.inr ⟨List.not_mem_nil, h⟩
  | i :: is, [], ws, h0, k, q, h => by cases h0
  | i :: is, x :: xs, ws, h0, k, q, h => by
    rcases wput_get is xs (ws.set i x) (by simpa using h0) k q h with ⟨j, h1, h2⟩ | ⟨h1, h2⟩
    · exact Or.inl ⟨j + 1, by simpa using h1, by simpa using h2⟩
    · by_cases hk : k = i
      · subst hk
        have hl : k < ws.length := by
          have := (List.getElem?_eq_some_iff.mp h2).1
          simpa using this
        rw [List.getElem?_set_self hl] at h2
        exact Or.inl ⟨0, rfl, by simpa using h2⟩
      · rw [List.getElem?_set_ne (Ne.symm hk)] at h2
        exact Or.inr ⟨fun h => (List.mem_cons.mp h).elim hk h1, h2⟩
theorem wput_ad {ws w w1 : va_W} {isC : List Nat} (hC : isC.map (fun i => ws[i]?) = w.map some) (ha : w1.map (·.1) = w.map (·.1)) (k : Nat) (q : Nat × va_E) (h : (wput ws isC w1)[k]? = some q) :
    ∃ q0, ws[k]? = some q0 ∧ q0.1 = q.1 := by
  have hlen : isC.length = w1.length := by
    have h1 := congrArg List.length hC
    have h2 := congrArg List.length ha
    simp only [List.length_map] at h1 h2
    omega
  rcases wput_get isC w1 ws hlen k q h with ⟨j, h1, h2⟩ | ⟨-, h2⟩
  · have h3 : (isC.map (fun i => ws[i]?))[j]? = some (ws[k]?) := by rw [List.getElem?_map, h1]; rfl
    rw [hC, List.getElem?_map] at h3
    cases hw : w[j]? with
    | none => rw [hw] at h3; cases h3
    | some q0 =>
      rw [hw] at h3
      have h4 : (w1.map (·.1))[j]? = some q.1 := by rw [List.getElem?_map, h2]; rfl
      rw [ha, List.getElem?_map, hw] at h4
      exact ⟨q0, (Option.some.inj h3).symm, Option.some.inj h4⟩
  · exact ⟨q, h2, rfl⟩
theorem wput_D {A : Nat → Prop} {ws w w1 : va_W} {isC : List Nat} (hD : va_D A ws) (hC : isC.map (fun i => ws[i]?) = w.map some) (ha : w1.map (·.1) = w.map (·.1)) : va_D A (wput ws isC w1) := by
  refine ⟨fun i j x y hi hj hxy => ?_, fun k q hk => ?_⟩
  · obtain ⟨x0, h1, h2⟩ := wput_ad hC ha i x hi
    obtain ⟨y0, h3, h4⟩ := wput_ad hC ha j y hj
    exact hD.1 i j x0 y0 h1 h3 (h2.trans (hxy.trans h4.symm))
  · obtain ⟨q0, h1, h2⟩ := wput_ad hC ha k q hk
    rw [← h2]
    exact hD.2 k q0 h1
theorem inW_of {ws w : va_W} {isC : List Nat} (hC : isC.map (fun i => ws[i]?) = w.map some) {q : Nat} (h : inW w q) : ∃ (k : Nat) (e : va_E), k ∈ isC ∧ ws[k]? = some (q, e) := by
  obtain ⟨j, e, h⟩ := h
  have h1 : (isC.map (fun i => ws[i]?))[j]? = some (some (q, e)) := by rw [hC, List.getElem?_map, h]; rfl
  rw [List.getElem?_map] at h1
  cases hi : isC[j]? with
  | none => rw [hi] at h1; cases h1
  | some i => rw [hi] at h1; exact ⟨i, e, List.mem_of_getElem? hi, Option.some.inj h1⟩
theorem wput_P {A : Nat → Prop} {g : GG} {ws w w1 : va_W} {isC : List Nat} {H H1 : Heap} (hP : PP g ws H) (hD : va_D A ws) (hC : isC.map (fun i => ws[i]?) = w.map some) (ha : w1.map (·.1) = w.map (·.1)) (hP1 : PP g w1 H1) (hk : ∀ q : Nat, q < H.size → ¬ inW w q → H1[q]? = H[q]?) : PP g (wput ws isC w1) H1 := by
  have hlen : isC.length = w1.length := by
    have h1 := congrArg List.length hC
    have h2 := congrArg List.length ha
    simp only [List.length_map] at h1 h2
    omega
  intro k q h
  rcases wput_get isC w1 ws hlen k q h with ⟨j, h1, h2⟩ | ⟨h1, h2⟩
  · exact hP1 j q h2
  · refine (hP k q h2).kept (hk q.1 (hP k q h2).lt (fun z => ?_))
    obtain ⟨k2, e2, z1, z2⟩ := inW_of hC z
    have := hD.1 k k2 q (q.1, e2) h2 z2 rfl
    subst this
    exact h1 z1
theorem PP_of {g : GG} {ws w : va_W} {isC : List Nat} {H : Heap} (hP : PP g ws H) (hC : isC.map (fun i => ws[i]?) = w.map some) : PP g w H := by
  intro j q h
  obtain ⟨k, e, z1, z2⟩ : ∃ (k : Nat) (e : Nat × va_E), ws[k]? = some e ∧ e = q := by
    have h1 : (isC.map (fun i => ws[i]?))[j]? = some (some q) := by rw [hC, List.getElem?_map, h]; rfl
    rw [List.getElem?_map] at h1
    cases hi : isC[j]? with
    | none => rw [hi] at h1; cases h1
    | some i => rw [hi] at h1; exact ⟨i, q, Option.some.inj h1, rfl⟩
  subst z2
  exact hP k e z1
theorem DD_of {A : Nat → Prop} {ws w : va_W} {isC : List Nat} (hD : va_D A ws) (hC : isC.map (fun i => ws[i]?) = w.map some) (hn : va_nd isC = true) : va_D (fun _ => True) w := (hD.sub isC hn hC).weaken (fun _ _ _ _ => trivial)
section OWN
variable {p : Program} {l : Launch} {e : Env} {R : Room} {s : State} {m : MethodId} {args : Array Value} {below : List Frame} {meth : Method} {c : Code} {H : Heap} {locs : List Loc} {cells slots : Nat} {Q : State → Prop}
variable {cc : ByteArray} {nL pc : Nat} {own : String} {g : GG} {ws : va_W} {ls : Array Slot} {rest st0 : List Value} {A : Nat → Prop} {H0 : Heap}
theorem MR.of {y : MethodName} {c0 : ByteArray} {n : Nat} {r : Option FieldType} {rm : Room} {as : List Value} {w : va_W} {V : Option Value} (hy : plainName y.cls = true) (hn : (lg_sl as).length ≤ n)
    (body : ∀ (p : Program) (e : Env) (s : State) (m : MethodId) (below : List Frame) (meth : Method) (c : Code) (ls : Array Slot), CallFix p m c c0 n s as.toArray G y.cls → meth.sig.returnType = r → meth.locks = false → KK g s → PP g w s.heap → lv_has ls n (lv_args 0 as) →
      W p l e rm s m as.toArray below meth c s.heap [] 0 0 (MQ below (QR V) as.toArray s 0 0 (fun _ => False)) (F0 m 0 ls [])) : MR l g y c0 n r rm as w V := by
  refine Met.ofW (cc := c0) (maxL := n) (ret := r) hy rfl ?_
  intro p e s m args below meth c s₁ B hml hv
  obtain ⟨rfl, hP, hK⟩ := hv
  have hts := atoms_spec (ws := Cond.code y c0 n r :: G) B.pre
  have hl := lv_entry as (n := n) hn
  rw [lg_entry_eq]
  exact body p e s m below meth c _ ⟨B.exec, B.bytes, hml, findClass_of_methodNamed B.named, fun w hw => hts w (List.mem_cons_of_mem _ hw)⟩ B.returns B.notSynchronized hK hP hl
theorem MW.of {y : MethodName} {c0 : ByteArray} {n : Nat} {r : Option FieldType} {rm : Room} {as : List Value} {w w' : va_W} {V : Option Value} (hy : plainName y.cls = true) (hn : (lg_sl as).length ≤ n)
    (body : ∀ (p : Program) (e : Env) (s : State) (m : MethodId) (below : List Frame) (meth : Method) (c : Code) (ls : Array Slot), CallFix p m c c0 n s as.toArray G y.cls → meth.sig.returnType = r → meth.locks = false → KK g s → PP g w s.heap → va_D (inW w) w → va_S (inW w) s.heap s.heap [] → lv_has ls n (lv_args 0 as) →
      W p l e rm s m as.toArray below meth c s.heap [] 0 0 (MQ below (QW g w w' V) as.toArray s 0 0 (inW w)) (F0 m 0 ls [])) : MW l g y c0 n r rm as w w' V := by
  refine Met.ofW (cc := c0) (maxL := n) (ret := r) hy rfl ?_
  intro p e s m args below meth c s₁ B hml hv
  obtain ⟨rfl, hP, hK, hD⟩ := hv
  have hts := atoms_spec (ws := Cond.code y c0 n r :: G) B.pre
  have hl := lv_entry as (n := n) hn
  rw [lg_entry_eq]
  exact body p e s m below meth c _ ⟨B.exec, B.bytes, hml, findClass_of_methodNamed B.named, fun w hw => hts w (List.mem_cons_of_mem _ hw)⟩ B.returns B.notSynchronized hK hP ⟨hD.1, fun k q hk => ⟨k, q.2, hk⟩⟩ va_S.rf hl
/-! ends -/
theorem r_i {v v' : Int32} (hx : p.tables.exec = Jvm.exec) (hb : c.code = cc) (hr : meth.sig.returnType = some .int) (hlk : meth.locks = false) (d : decode cc pc = .ok (.ireturn, 1)) (hv : v = v') :
    W p l e R s m args below meth c s.heap [] 0 0 (MQ below (QR (some (.int v'))) args s 0 0 (fun _ => False)) (F0 m pc ls [.int v]) :=
  W.iret hx hb hr (fun t ht _ => ⟨by rw [hv], ht⟩) (fun _ h => absurd h List.not_mem_nil) d hlk
theorem r_z {v v' : Int32} (hx : p.tables.exec = Jvm.exec) (hb : c.code = cc) (hr : meth.sig.returnType = some .boolean) (hlk : meth.locks = false) (d : decode cc pc = .ok (.ireturn, 1)) (hn : v = 0 ∨ v = 1) (hv : v = v') :
    W p l e R s m args below meth c s.heap [] 0 0 (MQ below (QR (some (.int v'))) args s 0 0 (fun _ => False)) (F0 m pc ls [.int v]) :=
  W.zret hx hb hr (by rcases hn with rfl | rfl <;> rfl) (fun t ht _ => ⟨by rw [hv], ht⟩) (fun _ h => absurd h List.not_mem_nil) d hlk
theorem r_l {v v' : Int64} (hx : p.tables.exec = Jvm.exec) (hb : c.code = cc) (hr : meth.sig.returnType = some .long) (hlk : meth.locks = false) (d : decode cc pc = .ok (.lreturn, 1)) (hv : v = v') :
    W p l e R s m args below meth c s.heap [] 0 0 (MQ below (QR (some (.long v'))) args s 0 0 (fun _ => False)) (F0 m pc ls [.long v]) :=
  W.lret hx hb hr (fun t ht _ => ⟨by rw [hv], ht⟩) (fun _ h => absurd h List.not_mem_nil) d hlk
theorem r_v (hx : p.tables.exec = Jvm.exec) (hb : c.code = cc) (hr : meth.sig.returnType = none) (hlk : meth.locks = false) (d : decode cc pc = .ok (.return_, 1)) :
    W p l e R s m args below meth c s.heap [] 0 0 (MQ below (QR none) args s 0 0 (fun _ => False)) (F0 m pc ls []) :=
  W.vret hx hb hr (fun t ht _ => ⟨rfl, ht⟩) (fun _ h => absurd h List.not_mem_nil) d hlk
theorem QW_of {w w' : va_W} {V : Option Value} {t : State} {o : Outcome} (ho : o = .returned V) (hS : va_S (inW w) s.heap H locs) (hP : PP g w' H) (ht : t.heap = H) : QW g w w' V args s o t := ⟨ho, by rw [ht]; exact hP, by rw [ht]; exact hS.1, fun q h1 h2 => by rw [ht]; exact hS.2.1 q h1 h2⟩
theorem w_i {w w' : va_W} {v v' : Int32} (hx : p.tables.exec = Jvm.exec) (hb : c.code = cc) (hr : meth.sig.returnType = some .int) (hlk : meth.locks = false) (hS : va_S (inW w) s.heap H locs) (d : decode cc pc = .ok (.ireturn, 1)) (hP : PP g w' H) (hv : v = v') :
    W p l e R s m args below meth c H locs cells slots (MQ below (QW g w w' (some (.int v'))) args s cells slots (inW w)) (F0 m pc ls [.int v]) :=
  W.iret hx hb hr (fun t ht _ => QW_of (by rw [hv]) hS hP ht) hS.2.2 d hlk
theorem w_z {w w' : va_W} {v v' : Int32} (hx : p.tables.exec = Jvm.exec) (hb : c.code = cc) (hr : meth.sig.returnType = some .boolean) (hlk : meth.locks = false) (hS : va_S (inW w) s.heap H locs) (d : decode cc pc = .ok (.ireturn, 1)) (hn : v = 0 ∨ v = 1) (hP : PP g w' H) (hv : v = v') :
    W p l e R s m args below meth c H locs cells slots (MQ below (QW g w w' (some (.int v'))) args s cells slots (inW w)) (F0 m pc ls [.int v]) :=
  W.zret hx hb hr (by rcases hn with rfl | rfl <;> rfl) (fun t ht _ => QW_of (by rw [hv]) hS hP ht) hS.2.2 d hlk
theorem w_l {w w' : va_W} {v v' : Int64} (hx : p.tables.exec = Jvm.exec) (hb : c.code = cc) (hr : meth.sig.returnType = some .long) (hlk : meth.locks = false) (hS : va_S (inW w) s.heap H locs) (d : decode cc pc = .ok (.lreturn, 1)) (hP : PP g w' H) (hv : v = v') :
    W p l e R s m args below meth c H locs cells slots (MQ below (QW g w w' (some (.long v'))) args s cells slots (inW w)) (F0 m pc ls [.long v]) :=
  W.lret hx hb hr (fun t ht _ => QW_of (by rw [hv]) hS hP ht) hS.2.2 d hlk
theorem w_v {w w' : va_W} (hx : p.tables.exec = Jvm.exec) (hb : c.code = cc) (hr : meth.sig.returnType = none) (hlk : meth.locks = false) (hS : va_S (inW w) s.heap H locs) (d : decode cc pc = .ok (.return_, 1)) (hP : PP g w' H) :
    W p l e R s m args below meth c H locs cells slots (MQ below (QW g w w' none) args s cells slots (inW w)) (F0 m pc ls []) :=
  W.vret hx hb hr (fun t ht _ => QW_of rfl hS hP ht) hS.2.2 d hlk
/-! fields -/
theorem gf {C : String} {T : u_T} {N ci index a : Nat} {fs : List Value} {v : Value} (S : CallFix p m c cc nL s args G own) (hK : KK g s) (hP : PP g ws H) (hin : ∀ w ∈ u_ws C T N, w ∈ G) (hc : vwCl[ci]? = some (C, T, N)) (q0 : Nat) (he : ws[q0]? = some (a, .inr (ci, fs))) (k : Nat) (hk : k < N)
    (hq : Cond.fieldLink own index C (T k).2.1 (T k).2.2.1 ∈ G) (hO : (T k).1 = C) (hv : fs[k]? = some v) (d : decode cc pc = .ok (.getfield index, 3))
    (kk : W p l e R s m args below meth c H locs cells slots Q (F0 m (pc + 3) ls (v :: rest))) : W p l e R s m args below meth c H locs cells slots Q (F0 m pc ls (.ref a :: rest)) := by
  obtain ⟨hx, hb, -, hown, hts⟩ := S
  exact va_get (D := g.1) (ref := C) hx hb hts hin hown hK hP q0 he hc k hk (hts _ hq) (fun x h => by rw [hO] at h; exact h) hv d kk
theorem pf {C : String} {T : u_T} {N ci index a : Nat} {fs : List Value} {v : Value} {ty : FieldType} (ty0 : Nat → FieldType) (hty : ∀ k, k < N → parseFieldDescriptor (T k).2.2.1 = some (ty0 k)) (hnm : ∀ a, a < N → ∀ b, b < N → a ≠ b → (T a).2.1 ≠ (T b).2.1)
    (S : CallFix p m c cc nL s args G own) (hK : KK g s) (hP : PP g ws H) (hD : va_D A ws) (hS : va_S A H0 H locs) (hin : ∀ w ∈ u_ws C T N, w ∈ G) (hc : vwCl[ci]? = some (C, T, N)) (q0 : Nat) (he : ws[q0]? = some (a, .inr (ci, fs))) (k : Nat) (hk : k < N)
    (hq : Cond.fieldLink own index C (T k).2.1 (T k).2.2.1 ∈ G) (hO : (T k).1 = C) (hfin : (T k).2.2.2 = false) (hd : ty0 k = ty) (hn : narrow ty v = v) (hfit : fits ty v = true) (hl : k < fs.length) (d : decode cc pc = .ok (.putfield index, 3))
    (kk : ∀ (H1 : Heap) (locs1 : List Loc), PP g (ws.set q0 (a, .inr (ci, fs.set k v))) H1 → va_D A (ws.set q0 (a, .inr (ci, fs.set k v))) → va_S A H0 H1 locs1 → W p l e R s m args below meth c H1 locs1 cells slots Q (F0 m (pc + 3) ls rest)) :
    W p l e R s m args below meth c H locs cells slots Q (F0 m pc ls (v :: .ref a :: rest)) := by
  obtain ⟨hx, hb, -, hown, hts⟩ := S
  exact va_put (D := g.1) (ref := C) hx hb hts hin ty0 hty hnm hown hK hP hD hS q0 he hc k hk (hts _ hq) (fun x h => by rw [hO] at h; exact h) hfin (by rw [hty k hk, hd]) hn hfit hl d kk
/-! calls -/
theorem cb_of {y : MethodName} {cb : ByteArray} {n k idx : Nat} {r : Option FieldType} {rm : Room} (S : CallFix p m c cc nL s args G own) (cw : CW y cb n r k) (hl : Cond.methodLink own idx y ∈ G) (hR : RM rm R n) :
    CallB R s args own idx y cb n r (Cond.code y cb n r :: G) rm 0 0 k :=
  callB_of (ws' := G) k S.2.2.2.2 (goodG cw.1) rfl hR.2.2.1 hR.2.2.2 (S.2.2.2.2 _ cw.2.1) (S.2.2.2.2 _ hl) cw.2.2 ⟨hR.1, hR.2.1⟩
theorem blind_r {as : List Value} {w : va_W} : FrameBlind (va_Pc as (fun U => PP g w U.heap ∧ KK g U)) := fun a U gg mk q => by
  obtain ⟨q0, qP, qK⟩ := q
  exact ⟨q0, qP, va_K.moved (u := U) (U := U.calling gg mk a) (Vm.Alike.refl U.vm) qK⟩
theorem blind_w {as : List Value} {w : va_W} : FrameBlind (va_Pc as (fun U => PP g w U.heap ∧ KK g U ∧ va_D (fun _ => True) w)) := fun a U gg mk q => by
  obtain ⟨q0, qP, qK, qD⟩ := q
  exact ⟨q0, qP, va_K.moved (u := U) (U := U.calling gg mk a) (Vm.Alike.refl U.vm) qK, qD⟩
theorem rdV {y : MethodName} {cb : ByteArray} {n k idx b ci : Nat} {r : Option FieldType} {rm : Room} {as : List Value} {w : va_W} {V : Option Value} {fs : List Value} {T : u_T} {N : Nat}
    (S : CallFix p m c cc nL s args G own) (hK : KK g s) (hP : PP g ws H) (hM : MR l g y cb n r rm (.ref b :: as) w V) (cw : CWV y cb n r k) (hl : Cond.methodLink own idx y ∈ G) (isC : List Nat) (hC : isC.map (fun i => ws[i]?) = w.map some)
    (q0 : Nat) (he : ws[q0]? = some (b, .inr (ci, fs))) (hcl : vwCl[ci]? = some (y.cls, T, N)) (hR : RM rm R n) (hk : as.length = k) (hst : st0 = as.reverse ++ .ref b :: rest) (hrest : (rest.map fun v => v.category).sum ≤ 8) (hsz : ls.size = nL) (d : decode cc pc = .ok (.invokevirtual idx, 3))
    (hf : cells ≤ R.cells ∧ slots ≤ R.slots)
    (kk : W p l e R s m args below meth c H locs cells slots Q (F0 m (pc + 3) ls (V.toList ++ rest))) : W p l e R s m args below meth c H locs cells slots Q (F0 m pc ls st0) := by
  have hrun := va_runV (H := H) (locs := locs) (cells := cells) (slots := slots) (below := below) (meth := meth) (e := e) (C := y.cls) (mc := 0) (ms := 0) (rest := rest) (g := F0 m pc ls st0) S hM ⟨cb_of S cw.1 hl hR, S.2.2.2.2 _ cw.2.1, S.2.2.2.2 _ cw.2.2⟩
    ⟨blind_r, va_recv hK hP hcl he, fun U hU hW => ⟨rfl, by rw [hU]; exact PP_of hP hC, va_K.moved hW.alike hK⟩⟩ rfl hk hsz hst (lv_room (ls := ls) (pc := pc) (m := m) (rest := st0) hrest) d ⟨hf.1, hf.2⟩
  intro T1 hT X
  obtain ⟨v, st₀, t, T', L, h0, X', hL, e1, e2, ⟨hv, hh⟩, st⟩ := hrun T1 hT X
  cases hv
  obtain ⟨t2, a1, b1⟩ := kk T' (by rw [e1, hh, h0]) (Stand.forget X' (fun q h => (hL q h).elim))
  exact ⟨t2, st t2 a1, b1⟩
theorem rdS {y : MethodName} {cb : ByteArray} {n k idx : Nat} {r : Option FieldType} {rm : Room} {as : List Value} {w : va_W} {V : Option Value}
    (S : CallFix p m c cc nL s args G own) (hK : KK g s) (hP : PP g ws H) (hM : MR l g y cb n r rm as w V) (cw : CWS y cb n r k) (hl : Cond.methodLink own idx y ∈ G) (isC : List Nat) (hC : isC.map (fun i => ws[i]?) = w.map some)
    (hR : RM rm R n) (hk : as.length = k) (hst : st0 = as.reverse ++ rest) (hrest : (rest.map fun v => v.category).sum ≤ 8) (hsz : ls.size = nL) (d : decode cc pc = .ok (.invokestatic idx, 3))
    (hf : cells ≤ R.cells ∧ slots ≤ R.slots)
    (kk : W p l e R s m args below meth c H locs cells slots Q (F0 m (pc + 3) ls (V.toList ++ rest))) : W p l e R s m args below meth c H locs cells slots Q (F0 m pc ls st0) := by
  have hrun := va_runS (H := H) (locs := locs) (cells := cells) (slots := slots) (below := below) (meth := meth) (e := e) (mc := 0) (ms := 0) (rest := rest) (g := F0 m pc ls st0) S hM ⟨cb_of S cw.1 hl hR, S.2.2.2.2 _ cw.2⟩
    ⟨blind_r, fun U hU hW => ⟨rfl, by rw [hU]; exact PP_of hP hC, va_K.moved hW.alike hK⟩⟩ rfl hk hsz hst (lv_room (ls := ls) (pc := pc) (m := m) (rest := st0) hrest) d ⟨hf.1, hf.2⟩
  intro T1 hT X
  obtain ⟨v, st₀, t, T', L, h0, X', hL, e1, e2, ⟨hv, hh⟩, st⟩ := hrun T1 hT X
  cases hv
  obtain ⟨t2, a1, b1⟩ := kk T' (by rw [e1, hh, h0]) (Stand.forget X' (fun q h => (hL q h).elim))
  exact ⟨t2, st t2 a1, b1⟩
theorem va_S_call {w : va_W} {isC : List Nat} {H1 : Heap} {L : List Loc} (hD : va_D A ws) (hS : va_S A H0 H locs) (hC : isC.map (fun i => ws[i]?) = w.map some) (hz : H.size ≤ H1.size) (hk : ∀ q : Nat, q < H.size → ¬ inW w q → H1[q]? = H[q]?) (hL : ∀ q ∈ L, inW w q.base) : va_S A H0 H1 (locs ++ L) := by
  have hw : ∀ q, inW w q → A q := fun q h => by
    obtain ⟨k, e, -, h2⟩ := inW_of hC h
    exact hD.2 k (q, e) h2
  refine ⟨Nat.le_trans hS.1 hz, fun q h1 h2 => ?_, fun q hq => ?_⟩
  · rw [hk q (Nat.lt_of_lt_of_le h1 hS.1) (fun z => h2 (hw q z))]
    exact hS.2.1 q h1 h2
  · rcases List.mem_append.mp hq with h | h
    · exact hS.2.2 q h
    · exact hw _ (hL q h)
theorem wrV {y : MethodName} {cb : ByteArray} {n k idx b ci : Nat} {r : Option FieldType} {rm : Room} {as : List Value} {w w1 : va_W} {V : Option Value} {fs : List Value} {T : u_T} {N : Nat}
    (S : CallFix p m c cc nL s args G own) (hK : KK g s) (hP : PP g ws H) (hD : va_D A ws) (hS : va_S A H0 H locs) (hM : MW l g y cb n r rm (.ref b :: as) w w1 V) (cw : CWV y cb n r k) (hl : Cond.methodLink own idx y ∈ G) (isC : List Nat) (hC : isC.map (fun i => ws[i]?) = w.map some) (hn : va_nd isC = true) (ha : w1.map (·.1) = w.map (·.1))
    (q0 : Nat) (he : ws[q0]? = some (b, .inr (ci, fs))) (hcl : vwCl[ci]? = some (y.cls, T, N)) (hR : RM rm R n) (hk : as.length = k) (hst : st0 = as.reverse ++ .ref b :: rest) (hrest : (rest.map fun v => v.category).sum ≤ 8) (hsz : ls.size = nL) (d : decode cc pc = .ok (.invokevirtual idx, 3))
    (hf : cells ≤ R.cells ∧ slots ≤ R.slots)
    (kk : ∀ (H1 : Heap) (locs1 : List Loc), PP g (wput ws isC w1) H1 → va_D A (wput ws isC w1) → va_S A H0 H1 locs1 → W p l e R s m args below meth c H1 locs1 cells slots Q (F0 m (pc + 3) ls (V.toList ++ rest))) : W p l e R s m args below meth c H locs cells slots Q (F0 m pc ls st0) := by
  have hrun := va_runV (H := H) (locs := locs) (cells := cells) (slots := slots) (below := below) (meth := meth) (e := e) (C := y.cls) (mc := 0) (ms := 0) (rest := rest) (g := F0 m pc ls st0) S hM ⟨cb_of S cw.1 hl hR, S.2.2.2.2 _ cw.2.1, S.2.2.2.2 _ cw.2.2⟩
    ⟨blind_w, va_recv hK hP hcl he, fun U hU hW => ⟨rfl, by rw [hU]; exact PP_of hP hC, va_K.moved hW.alike hK, DD_of hD hC hn⟩⟩ rfl hk hsz hst (lv_room (ls := ls) (pc := pc) (m := m) (rest := st0) hrest) d ⟨hf.1, hf.2⟩
  intro T1 hT X
  obtain ⟨v, st₀, t, T', L, h0, X', hL, e1, e2, ⟨hv, hP1, hz, hkp⟩, st⟩ := hrun T1 hT X
  cases hv
  rw [h0] at hz hkp
  rw [← e1] at hP1 hz hkp
  obtain ⟨t2, a1, b1⟩ := kk T'.heap (locs ++ L) (wput_P hP hD hC ha hP1 hkp) (wput_D hD hC ha) (va_S_call hD hS hC hz hkp hL) T' rfl X'
  exact ⟨t2, st t2 a1, b1⟩
theorem wrS {y : MethodName} {cb : ByteArray} {n k idx : Nat} {r : Option FieldType} {rm : Room} {as : List Value} {w w1 : va_W} {V : Option Value}
    (S : CallFix p m c cc nL s args G own) (hK : KK g s) (hP : PP g ws H) (hD : va_D A ws) (hS : va_S A H0 H locs) (hM : MW l g y cb n r rm as w w1 V) (cw : CWS y cb n r k) (hl : Cond.methodLink own idx y ∈ G) (isC : List Nat) (hC : isC.map (fun i => ws[i]?) = w.map some) (hn : va_nd isC = true) (ha : w1.map (·.1) = w.map (·.1))
    (hR : RM rm R n) (hk : as.length = k) (hst : st0 = as.reverse ++ rest) (hrest : (rest.map fun v => v.category).sum ≤ 8) (hsz : ls.size = nL) (d : decode cc pc = .ok (.invokestatic idx, 3))
    (hf : cells ≤ R.cells ∧ slots ≤ R.slots)
    (kk : ∀ (H1 : Heap) (locs1 : List Loc), PP g (wput ws isC w1) H1 → va_D A (wput ws isC w1) → va_S A H0 H1 locs1 → W p l e R s m args below meth c H1 locs1 cells slots Q (F0 m (pc + 3) ls (V.toList ++ rest))) : W p l e R s m args below meth c H locs cells slots Q (F0 m pc ls st0) := by
  have hrun := va_runS (H := H) (locs := locs) (cells := cells) (slots := slots) (below := below) (meth := meth) (e := e) (mc := 0) (ms := 0) (rest := rest) (g := F0 m pc ls st0) S hM ⟨cb_of S cw.1 hl hR, S.2.2.2.2 _ cw.2⟩
    ⟨blind_w, fun U hU hW => ⟨rfl, by rw [hU]; exact PP_of hP hC, va_K.moved hW.alike hK, DD_of hD hC hn⟩⟩ rfl hk hsz hst (lv_room (ls := ls) (pc := pc) (m := m) (rest := st0) hrest) d ⟨hf.1, hf.2⟩
  intro T1 hT X
  obtain ⟨v, st₀, t, T', L, h0, X', hL, e1, e2, ⟨hv, hP1, hz, hkp⟩, st⟩ := hrun T1 hT X
  cases hv
  rw [h0] at hz hkp
  rw [← e1] at hP1 hz hkp
  obtain ⟨t2, a1, b1⟩ := kk T'.heap (locs ++ L) (wput_P hP hD hC ha hP1 hkp) (wput_D hD hC ha) (va_S_call hD hS hC hz hkp hL) T' rfl X'
  exact ⟨t2, st t2 a1, b1⟩
end OWN
end
section
/-! OWN ROWS, second: places that are numbers; answers that are truth values; pictures of the objects -/
def bI (b : Bool) : Int32 := if b then 1 else 0
theorem bI_0 {b : Bool} : bI b = 0 ↔ b = false := by cases b <;> simp [bI]
theorem bI_n0 {b : Bool} : ¬ bI b = 0 ↔ b = true := by cases b <;> simp [bI]
theorem bI_t {b : Bool} (h : b = true) : bI b = 1 := by rw [h]; rfl
theorem bI_f {b : Bool} (h : b = false) : bI b = 0 := by rw [h]; rfl
theorem bI_r {b c : Bool} (h : b = c) : bI b = bI c := by rw [h]
theorem bI_01 (b : Bool) : bI b = 0 ∨ bI b = 1 := by cases b <;> simp [bI]
theorem i_lt {a b : Int32} : a < b ↔ a.toInt < b.toInt := Int32.lt_iff_toInt_lt
theorem i_le {a b : Int32} : a ≤ b ↔ a.toInt ≤ b.toInt := Int32.le_iff_toInt_le
theorem i_eq {a b : Int32} : a = b ↔ a.toInt = b.toInt := Int32.toInt_inj.symm
section OWNB
variable {p : Program} {l : Launch} {e : Env} {R : Room} {s : State} {m : MethodId} {args : Array Value} {below : List Frame} {meth : Method} {c : Code} {H : Heap} {locs : List Loc} {cells slots : Nat} {Q : State → Prop}
variable {cc : ByteArray} {nL pc : Nat} {own : String} {g : GG} {ws : va_W} {ls : Array Slot} {rest st0 : List Value} {A : Nat → Prop} {H0 : Heap}
theorem topE {x y : Int32} (h : x = y) (k : W p l e R s m args below meth c H locs cells slots Q (F0 m pc ls (.int y :: rest))) : W p l e R s m args below meth c H locs cells slots Q (F0 m pc ls (.int x :: rest)) := by rw [h]; exact k
theorem topL {x y : Int64} (h : x = y) (k : W p l e R s m args below meth c H locs cells slots Q (F0 m pc ls (.long y :: rest))) : W p l e R s m args below meth c H locs cells slots Q (F0 m pc ls (.long x :: rest)) := by rw [h]; exact k
theorem aldN {a n j : Nat} {cA : ClassId} {f : Nat → Int32} {i : Int32} (hx : p.tables.exec = Jvm.exec) (hb : c.code = cc) (hK : KK g s) (hP : PP g ws H) (q0 t0 : Nat) (ha : ws[q0]? = some (a, .inl (cA, n, .inl f))) (ht : (tyz g)[t0]? = some (cA, .int)) (hi : i = nI j) (hj : j < n) (hn : n < 2 ^ 31) (d : decode cc pc = .ok (.iaload, 1))
    (kk : W p l e R s m args below meth c H locs cells slots Q (F0 m (pc + 1) ls (.int (f j) :: rest))) : W p l e R s m args below meth c H locs cells slots Q (F0 m pc ls (.int i :: .ref a :: rest)) := by
  subst hi
  refine va_iald hx hb hK hP q0 t0 ha ht (vp_in_nI hj hn) d ?_
  rw [nI_clamp (by omega)]
  exact kk
theorem astN {a n j : Nat} {cA : ClassId} {f : Nat → Int32} {i x : Int32} (hx : p.tables.exec = Jvm.exec) (hb : c.code = cc) (hK : KK g s) (hP : PP g ws H) (hD : va_D A ws) (hS : va_S A H0 H locs) (q0 t0 : Nat) (ha : ws[q0]? = some (a, .inl (cA, n, .inl f))) (ht : (tyz g)[t0]? = some (cA, .int)) (hi : i = nI j) (hj : j < n) (hn : n < 2 ^ 31) (d : decode cc pc = .ok (.iastore, 1))
    (kk : ∀ (H1 : Heap) (locs1 : List Loc), PP g (ws.set q0 (a, .inl (cA, n, .inl (upd f j x)))) H1 → va_D A (ws.set q0 (a, .inl (cA, n, .inl (upd f j x)))) → va_S A H0 H1 locs1 → W p l e R s m args below meth c H1 locs1 cells slots Q (F0 m (pc + 1) ls rest)) :
    W p l e R s m args below meth c H locs cells slots Q (F0 m pc ls (.int x :: .int i :: .ref a :: rest)) := by
  subst hi
  refine va_iast hx hb hK hP hD hS q0 t0 ha ht (vp_in_nI hj hn) d ?_
  rw [nI_clamp (by omega)]
  exact kk
theorem zldN {a n j : Nat} {cA : ClassId} {f : Nat → Int32} {i : Int32} (hx : p.tables.exec = Jvm.exec) (hb : c.code = cc) (hK : KK g s) (hP : PP g ws H) (q0 t0 : Nat) (ha : ws[q0]? = some (a, .inl (cA, n, .inl f))) (ht : (tyz g)[t0]? = some (cA, .boolean)) (hi : i = nI j) (hj : j < n) (hn : n < 2 ^ 31) (d : decode cc pc = .ok (.baload, 1))
    (kk : W p l e R s m args below meth c H locs cells slots Q (F0 m (pc + 1) ls (.int (f j) :: rest))) : W p l e R s m args below meth c H locs cells slots Q (F0 m pc ls (.int i :: .ref a :: rest)) := by
  subst hi
  refine va_zald hx hb hK hP q0 t0 ha ht (vp_in_nI hj hn) d ?_
  rw [nI_clamp (by omega)]
  exact kk
end OWNB
/-! pictures: a Buffer at b; a State at s with its table at t (its eight cells, by rows: row 0 its own numbers by their slots); a Table at t -/
abbrev bW (g : GG) (b : Nat) (cs : Nat → Int32) (len : Int32) : va_W := [(b, .inr (0, [.ref (b + 1), .int len])), (b + 1, .inl (g.2 0, 60, .inl cs))]
abbrev sW (g : GG) (s t : Nat) (S : Nat → Nat → Int32) : va_W :=
  [(s, .inr (2, [.ref (s + 1), .ref (s + 2), .ref (s + 3), .ref (s + 4), .ref (s + 5), .ref (s + 6), .ref (s + 7), .int (S 0 7), .ref t, .int (S 0 9), .int (S 0 10), .int (S 0 11)])),
   (s + 1, .inl (g.2 0, 10, .inl (S 1))), (s + 2, .inl (g.2 0, 10, .inl (S 2))), (s + 3, .inl (g.2 0, 10, .inl (S 3))), (s + 4, .inl (g.2 0, 16, .inl (S 4))), (s + 5, .inl (g.2 0, 4, .inl (S 5))), (s + 6, .inl (g.2 0, 40, .inl (S 6))), (s + 7, .inl (g.2 0, 40, .inl (S 7)))]
abbrev tW (g : GG) (t : Nat) (T : Nat → Nat → Int32) : va_W :=
  [(t, .inr (3, [.ref (t + 1), .ref (t + 2), .ref (t + 3), .ref (t + 4), .ref (t + 5), .ref (t + 6), .int (T 0 6), .ref (t + 7)])),
   (t + 1, .inl (g.2 0, 16, .inl (T 1))), (t + 2, .inl (g.2 0, 100, .inl (T 2))), (t + 3, .inl (g.2 0, 100, .inl (T 3))), (t + 4, .inl (g.2 0, 100, .inl (T 4))), (t + 5, .inl (g.2 0, 100, .inl (T 5))), (t + 6, .inl (g.2 0, 100, .inl (T 6))), (t + 7, .inl (g.2 0, 40, .inl (T 7)))]
/-- a row of a picture, anew -/
def rw_ (T : Nat → Nat → Int32) (a : Nat) (f : Nat → Int32) : Nat → Nat → Int32 := fun k => cond (Nat.beq k a) f (T k)
end
section
/-! OWN ROWS, third: whole rows copied, filled; Math.max, Math.min; counts -/
theorem qMax : Cond.code Lib.Math.max.name Lib.Math.max.code 2 (some .int) ∈ G := inG 313 (by decide +kernel) rfl
theorem qMin : Cond.code Lib.Math.min.name Lib.Math.min.code 2 (some .int) ∈ G := inG 316 (by decide +kernel) rfl
def imax (x y : Int32) : Int32 := if x < y then y else x
def imin (x y : Int32) : Int32 := if y < x then y else x
theorem arrV_congr (cI : ClassId) (n : Nat) {f f' : Nat → Value} (h : ∀ j, j < n → f j = f' j) : arrV cI n f = arrV cI n f' := by
  unfold arrV
  have : (fun j : Fin n => f j.val) = fun j : Fin n => f' j.val := funext fun j => h j.val j.isLt
  rw [this]
theorem PP_row {A : Nat → Prop} {g : GG} {ws : va_W} {H : Heap} {q1 a n : Nat} {c1 : ClassId} {f f' : Nat → Int32} (hP : PP g ws H) (hD : va_D A ws) (he : ws[q1]? = some (a, .inl (c1, n, .inl f))) (h : ∀ j, j < n → f j = f' j) : PP g (ws.set q1 (a, .inl (c1, n, .inl f'))) H := by
  have e : vp_cell c1 (n, .inl f') = vp_cell c1 (n, .inl f) := by
    rw [vp_cell_i, vp_cell_i]
    exact (arrV_congr c1 n (f := fun j => .int (f j)) (f' := fun j => .int (f' j)) (fun j hj => by simp only [h j hj])).symm
  have h1 : H[a]? = some (vp_cell c1 (n, .inl f)) := hP q1 _ he
  exact hP.set hD he (show H[a]? = some (vp_cell c1 (n, .inl f')) by rw [e]; exact h1) (fun _ _ => rfl)
theorem set_set {α : Type} : ∀ (l : List α) (k : Nat) (x y : α), (l.set k x).set k y = l.set k y
  | [], _, _, _ => rfl
  | _ :: _, 0, _, _ => rfl
  | a :: l, k + 1, x, y => by simp
/-- how many of the first n places bear P -/
def cn (P : Nat → Bool) : Nat → Nat
  | 0 => 0
  | n + 1 => cn P n + if P n then 1 else 0
theorem cn_le (P : Nat → Bool) : ∀ n, cn P n ≤ n
  | 0 => Nat.le_refl _
  | n + 1 => by
    have := cn_le P n
    unfold cn
    split <;> omega
theorem cn_cong {P P' : Nat → Bool} : ∀ {n : Nat}, (∀ k, k < n → P k = P' k) → cn P n = cn P' n
  | 0, _ => rfl
  | n + 1, h => by rw [cn, cn, cn_cong (fun k hk => h k (Nat.lt_succ_of_lt hk)), h n (Nat.lt_succ_self n)]
section OWNC
variable {p : Program} {l : Launch} {e : Env} {R : Room} {s : State} {m : MethodId} {args : Array Value} {below : List Frame} {meth : Method} {c : Code} {H : Heap} {locs : List Loc} {cells slots : Nat} {Q : State → Prop}
variable {cc : ByteArray} {nL pc : Nat} {own : String} {g : GG} {ws : va_W} {ls : Array Slot} {rest st0 : List Value} {A : Nat → Prop} {H0 : Heap}
/-- a whole row copied over another of its length -/
theorem cpF {index a a0 n : Nat} {k : Int32} {f f1 : Nat → Int32} (S : CallFix p m c cc nL s args G own) (hK : KK g s) (hP : PP g ws H) (hD : va_D A ws) (hS : va_S A H0 H locs) (hl : Cond.methodLink own index arraycopyName ∈ G) (q0 q1 : Nat)
    (ha0 : ws[q0]? = some (a0, .inl (g.2 0, n, .inl f))) (ha1 : ws[q1]? = some (a, .inl (g.2 0, n, .inl f1))) (hk : k = nI n) (hn : n < 2 ^ 31) (hR : 1 ≤ R.frames ∧ (rest.map fun v => v.category).sum + 18 ≤ R.locals) (hsz : ls.size = nL) (d : decode cc pc = .ok (.invokestatic index, 3))
    (kk : ∀ (H1 : Heap) (locs1 : List Loc), PP g (ws.set q1 (a, .inl (g.2 0, n, .inl f))) H1 → va_D A (ws.set q1 (a, .inl (g.2 0, n, .inl f))) → va_S A H0 H1 locs1 → W p l e R s m args below meth c H1 locs1 cells slots Q (F0 m (pc + 3) ls rest)) :
    W p l e R s m args below meth c H locs cells slots Q (F0 m pc ls (.int k :: .int 0 :: .ref a :: .int 0 :: .ref a0 :: rest)) := by
  subst hk
  obtain ⟨hx, hb, hml, hown, hts⟩ := S
  have h0 : (0 : Int32).toNatClampNeg = 0 := rfl
  have hc : (nI n).toNatClampNeg = n := nI_clamp hn
  refine va_copyi (D := g.1) (tys := tyz g) (n0 := n) (n1 := n) hx hb (hml.trans hsz.symm) hown (hts _ hl) (hts _ q295) (hts _ q294) (hts _ q71) hK hP hD hS q0 q1 0 0 ha0 ha1 rfl rfl rfl (by decide) (by decide) (nI_pos hn) (by rw [h0, hc]; omega) (by rw [h0, hc]; omega) (fun _ _ => rfl) hR.1 hR.2 d (fun H1 locs1 hP1 hD1 hS1 => ?_)
  rw [h0, hc] at hP1 hD1
  have hlen : q1 < ws.length := (List.getElem?_eq_some_iff.mp ha1).1
  have hP2 := PP_row (q1 := q1) (f' := f) hP1 hD1 (by rw [List.getElem?_set_self hlen]) (fun j hj => by unfold va_cpy; rw [if_pos ⟨Nat.zero_le _, by omega⟩]; congr 1; omega)
  have hD2 := hD1.set (p := q1) (a := a) (e := .inl (g.2 0, n, .inl f)) (e0 := .inl (g.2 0, n, .inl (va_cpy f f1 0 0 n))) (by rw [List.getElem?_set_self hlen])
  rw [set_set] at hP2 hD2
  exact kk H1 locs1 hP2 hD2 hS1
theorem mxx {index : Nat} {x y : Int32} (S : CallFix p m c cc nL s args G own) (hl : Cond.methodLink own index Lib.Math.max.name ∈ G) (hR : 1 ≤ R.frames ∧ (rest.map fun v => v.category).sum + 13 ≤ R.locals) (hf : cells ≤ R.cells ∧ slots ≤ R.slots) (hsz : ls.size = nL) (d : decode cc pc = .ok (.invokestatic index, 3))
    (kk : W p l e R s m args below meth c H locs cells slots Q (F0 m (pc + 3) ls (.int (imax x y) :: rest))) : W p l e R s m args below meth c H locs cells slots Q (F0 m pc ls (.int y :: .int x :: rest)) :=
  va_mmax S.1 S.2.1 (S.2.2.1.trans hsz.symm) S.2.2.2.1 (S.2.2.2.2 _ hl) (S.2.2.2.2 _ q312) (S.2.2.2.2 _ q73) (S.2.2.2.2 _ qMax) hR.1 hR.2 hf.1 hf.2 d kk
theorem mnn {index : Nat} {x y : Int32} (S : CallFix p m c cc nL s args G own) (hl : Cond.methodLink own index Lib.Math.min.name ∈ G) (hR : 1 ≤ R.frames ∧ (rest.map fun v => v.category).sum + 13 ≤ R.locals) (hf : cells ≤ R.cells ∧ slots ≤ R.slots) (hsz : ls.size = nL) (d : decode cc pc = .ok (.invokestatic index, 3))
    (kk : W p l e R s m args below meth c H locs cells slots Q (F0 m (pc + 3) ls (.int (imin x y) :: rest))) : W p l e R s m args below meth c H locs cells slots Q (F0 m pc ls (.int y :: .int x :: rest)) :=
  va_mmin S.1 S.2.1 (S.2.2.1.trans hsz.symm) S.2.2.2.1 (S.2.2.2.2 _ hl) (S.2.2.2.2 _ q315) (S.2.2.2.2 _ q73) (S.2.2.2.2 _ qMin) hR.1 hR.2 hf.1 hf.2 d kk
theorem zstN {a n j : Nat} {cA : ClassId} {f : Nat → Int32} {i x : Int32} (hx : p.tables.exec = Jvm.exec) (hb : c.code = cc) (hK : KK g s) (hP : PP g ws H) (hD : va_D A ws) (hS : va_S A H0 H locs) (q0 t0 : Nat) (ha : ws[q0]? = some (a, .inl (cA, n, .inl f))) (ht : (tyz g)[t0]? = some (cA, .boolean)) (hi : i = nI j) (hj : j < n) (hn : n < 2 ^ 31) (h01 : x = 0 ∨ x = 1) (d : decode cc pc = .ok (.bastore, 1))
    (kk : ∀ (H1 : Heap) (locs1 : List Loc), PP g (ws.set q0 (a, .inl (cA, n, .inl (upd f j x)))) H1 → va_D A (ws.set q0 (a, .inl (cA, n, .inl (upd f j x)))) → va_S A H0 H1 locs1 → W p l e R s m args below meth c H1 locs1 cells slots Q (F0 m (pc + 1) ls rest)) :
    W p l e R s m args below meth c H locs cells slots Q (F0 m pc ls (.int x :: .int i :: .ref a :: rest)) := by
  subst hi
  refine va_zast hx hb hK hP hD hS q0 t0 ha ht (vp_in_nI hj hn) d ?_
  rw [nI_clamp (by omega), show vp_nar .boolean x = x by rcases h01 with rfl | rfl <;> rfl]
  exact kk
end OWNC
end
section
/-! KernLessons$Buffer: its readers -/
def isL (c : Int32) : Bool := !decide (c < 97) && !decide (107 ≤ c)
/-- a letter at a place, any number -/
def hlA (cs : Nat → Int32) (n : Nat) (i : Int32) : Bool := !decide (i < 0) && (!decide (nI n ≤ i) && isL (cs i.toNatClampNeg))
def hpA (cs : Nat → Int32) (n : Nat) (i : Int32) : Bool := hlA cs n i && hlA cs n (i + 1)
theorem in_of {n : Nat} {i : Int32} (h0 : ¬ i < 0) (h1 : ¬ nI n ≤ i) (hn : n < 2 ^ 31) : ∃ j : Nat, j < n ∧ i = nI j := by
  rcases pk_ix i hn with h | h | h
  · exact absurd h h0
  · exact absurd h h1
  · exact h
theorem hlA_nI {cs : Nat → Int32} {n k : Nat} (hk : k < n) (hn : n < 2 ^ 31) : hlA cs n (nI k) = isL (cs k) := by
  have h1 : ¬ nI k < 0 := nI_pos (by omega)
  have h2 : ¬ nI n ≤ nI k := nI_ge hk hn
  simp [hlA, h1, h2, nI_clamp (show k < 2 ^ 31 by omega)]
theorem hlA_out {cs : Nat → Int32} {n k : Nat} (hk : n ≤ k) (h2 : k < 2 ^ 31) : hlA cs n (nI k) = false := by
  simp [hlA, nI_le hk h2]
theorem hlA_m1 {cs : Nat → Int32} {n k : Nat} (hk : k ≤ n) (hn : n < 2 ^ 31) : hlA cs n (nI k - 1) = (decide (0 < k) && isL (cs (k - 1))) := by
  cases k with
  | zero => simp [hlA, show nI 0 - 1 < 0 by decide]
  | succ k =>
    rw [nI_pred, hlA_nI (by omega) hn]
    simp
/-- no syntax error at k, as far as the characters before it are right -/
def okc (cs : Nat → Int32) (n k : Nat) : Bool := hlA cs n (nI k) || (decide (cs k = 46) && hlA cs n (nI k - 1))
def fwp (cs : Nat → Int32) (n : Nat) : Nat → Nat → Nat
  | 0, k => k
  | d + 1, k => if okc cs n k then fwp cs n d (k + 1) else k
theorem fwp_le (cs : Nat → Int32) (n : Nat) : ∀ d k, k ≤ fwp cs n d k ∧ fwp cs n d k ≤ k + d
  | 0, k => ⟨Nat.le_refl _, Nat.le_refl _⟩
  | d + 1, k => by
    unfold fwp
    split
    · have := fwp_le cs n d (k + 1)
      omega
    · omega
def ttx (cs : Nat → Int32) (n : Nat) : Bool := decide (fwp cs n n 0 = n) && hlA cs n (nI n - 1)
theorem fwp_go {cs : Nat → Int32} {n k : Nat} (h : fwp cs n n 0 = fwp cs n (n - k) k) (hk : k < n) (ho : okc cs n k = true) : fwp cs n n 0 = fwp cs n (n - (k + 1)) (k + 1) := by
  rw [h, show n - k = (n - (k + 1)) + 1 by omega, fwp, if_pos ho]
theorem fwp_end {cs : Nat → Int32} {n k : Nat} (h : fwp cs n n 0 = fwp cs n (n - k) k) (hk : k ≤ n) (ho : okc cs n k = false ∨ n ≤ k) : k = fwp cs n n 0 := by
  rw [h]
  rcases Nat.lt_or_ge k n with z | z
  · rcases ho with ho | ho
    · rw [show n - k = (n - (k + 1)) + 1 by omega, fwp, if_neg (by simp [ho])]
    · omega
  · rw [show n - k = 0 by omega, fwp]

set_option maxHeartbeats 4000000 in
set_option maxRecDepth 100000 in
theorem m_X0_hasLetterAt (l : Launch) (g : GG) (b : Nat) (cs : Nat → Int32) (n : Nat) (hn : n ≤ 60) (i : Int32) : MR l g yX0_hasLetterAt cX0_hasLetterAt 2 (some .boolean) ({ frames := 0, cells := 0, slots := 0, locals := 0 } : Room) [.ref b, .int i] (bW g b cs (nI n)) (some (.int (bI (hlA cs n i)))) := by
  refine MR.of rfl (Nat.le_of_ble_eq_true rfl) ?_
  intro zp ze zs zm zbelow zmeth zc ls zS hr hlk hK hP hl
  obtain ⟨hx, hb, hml, hown, hts⟩ := id zS
  have hl : lv_has ls 2 [(0, .ref b), (1, .int i)] := hl
  refine lv_iload_n hx hb dX0_hasLetterAt_0 rfl (lv_at hl 1 rfl) ?_
  refine lv_if_lt (tgt := 38) hx hb dX0_hasLetterAt_1 (by decide) (fun c_1 => ?_) (fun c_1 => ?_)
  · skip
    refine lv_iconst (v := 0) hx hb dX0_hasLetterAt_38 (by decide) ?_
    refine r_z hx hb hr hlk dX0_hasLetterAt_39 (by decide) ?_
    simp only [bI, hlA, isL, c_1, eq_self, Nat.add_zero, Nat.zero_add, decide_true, decide_false, Bool.not_true, Bool.not_false, Bool.and_true, Bool.true_and, Bool.and_false, Bool.false_and, Bool.or_true, Bool.true_or, Bool.or_false, Bool.false_or, reduceIte, Bool.false_eq_true]
  · skip
    refine lv_iload_n hx hb dX0_hasLetterAt_4 rfl (lv_at hl 1 rfl) ?_
    refine lv_aload_n hx hb dX0_hasLetterAt_5 rfl (lv_at hl 0 rfl) ?_
    refine gf zS hK hP iG0 rfl 0 rfl 1 (by decide) q199 rfl rfl dX0_hasLetterAt_6 ?_
    refine lv_icmp_ge (tgt := 38) hx hb dX0_hasLetterAt_9 (by decide) (fun c_9 => ?_) (fun c_9 => ?_)
    · skip
      refine lv_iconst (v := 0) hx hb dX0_hasLetterAt_38 (by decide) ?_
      refine r_z hx hb hr hlk dX0_hasLetterAt_39 (by decide) ?_
      simp only [bI, hlA, isL, c_1, c_9, eq_self, Nat.add_zero, Nat.zero_add, decide_true, decide_false, Bool.not_true, Bool.not_false, Bool.and_true, Bool.true_and, Bool.and_false, Bool.false_and, Bool.or_true, Bool.true_or, Bool.or_false, Bool.false_or, reduceIte, Bool.false_eq_true]
    · skip
      obtain ⟨j, hj, hi⟩ : ∃ j : Nat, j < n ∧ i = nI j := in_of c_1 c_9 (by omega)
      have hjc : i.toNatClampNeg = j := by rw [hi]; exact nI_clamp (by omega)
      refine lv_aload_n hx hb dX0_hasLetterAt_12 rfl (lv_at hl 0 rfl) ?_
      refine gf zS hK hP iG0 rfl 0 rfl 0 (by decide) q197 rfl rfl dX0_hasLetterAt_13 ?_
      refine lv_iload_n hx hb dX0_hasLetterAt_16 rfl (lv_at hl 1 rfl) ?_
      refine aldN (j := j) hx hb hK hP 1 0 rfl rfl hi (by omega) (by decide) dX0_hasLetterAt_17 ?_
      refine lv_bipush (v := 97) hx hb dX0_hasLetterAt_18 (by decide) ?_
      refine lv_icmp_lt (tgt := 38) hx hb dX0_hasLetterAt_20 (by decide) (fun c_20 => ?_) (fun c_20 => ?_)
      · skip
        refine lv_iconst (v := 0) hx hb dX0_hasLetterAt_38 (by decide) ?_
        refine r_z hx hb hr hlk dX0_hasLetterAt_39 (by decide) ?_
        simp only [bI, hlA, isL, hjc, c_1, c_9, c_20, eq_self, Nat.add_zero, Nat.zero_add, decide_true, decide_false, Bool.not_true, Bool.not_false, Bool.and_true, Bool.true_and, Bool.and_false, Bool.false_and, Bool.or_true, Bool.true_or, Bool.or_false, Bool.false_or, reduceIte, Bool.false_eq_true]
      · skip
        refine lv_aload_n hx hb dX0_hasLetterAt_23 rfl (lv_at hl 0 rfl) ?_
        refine gf zS hK hP iG0 rfl 0 rfl 0 (by decide) q197 rfl rfl dX0_hasLetterAt_24 ?_
        refine lv_iload_n hx hb dX0_hasLetterAt_27 rfl (lv_at hl 1 rfl) ?_
        refine aldN (j := j) hx hb hK hP 1 0 rfl rfl hi (by omega) (by decide) dX0_hasLetterAt_28 ?_
        refine lv_bipush (v := 107) hx hb dX0_hasLetterAt_29 (by decide) ?_
        refine lv_icmp_ge (tgt := 38) hx hb dX0_hasLetterAt_31 (by decide) (fun c_31 => ?_) (fun c_31 => ?_)
        · skip
          refine lv_iconst (v := 0) hx hb dX0_hasLetterAt_38 (by decide) ?_
          refine r_z hx hb hr hlk dX0_hasLetterAt_39 (by decide) ?_
          simp only [bI, hlA, isL, hjc, c_1, c_9, c_20, c_31, eq_self, Nat.add_zero, Nat.zero_add, decide_true, decide_false, Bool.not_true, Bool.not_false, Bool.and_true, Bool.true_and, Bool.and_false, Bool.false_and, Bool.or_true, Bool.true_or, Bool.or_false, Bool.false_or, reduceIte, Bool.false_eq_true]
        · skip
          refine lv_iconst (v := 1) hx hb dX0_hasLetterAt_34 (by decide) ?_
          refine lv_goto (tgt := 39) hx hb dX0_hasLetterAt_35 (by decide) ?_
          refine r_z hx hb hr hlk dX0_hasLetterAt_39 (by decide) ?_
          simp only [bI, hlA, isL, hjc, c_1, c_9, c_20, c_31, eq_self, Nat.add_zero, Nat.zero_add, decide_true, decide_false, Bool.not_true, Bool.not_false, Bool.and_true, Bool.true_and, Bool.and_false, Bool.false_and, Bool.or_true, Bool.true_or, Bool.or_false, Bool.false_or, reduceIte, Bool.false_eq_true]
theorem cw_X0_hasLetterAt : CWV yX0_hasLetterAt cX0_hasLetterAt 2 (some .boolean) 1 := ⟨⟨q276, q63, by decide +kernel, by decide +kernel, by decide +kernel⟩, q274, q275⟩
set_option maxHeartbeats 4000000 in
set_option maxRecDepth 100000 in
theorem m_X0_hasPairAt (l : Launch) (g : GG) (b : Nat) (cs : Nat → Int32) (n : Nat) (hn : n ≤ 60) (i : Int32) : MR l g yX0_hasPairAt cX0_hasPairAt 2 (some .boolean) ({ frames := 1, cells := 0, slots := 0, locals := 21 } : Room) [.ref b, .int i] (bW g b cs (nI n)) (some (.int (bI (hpA cs n i)))) := by
  refine MR.of rfl (Nat.le_of_ble_eq_true rfl) ?_
  intro zp ze zs zm zbelow zmeth zc ls zS hr hlk hK hP hl
  obtain ⟨hx, hb, hml, hown, hts⟩ := id zS
  have hl : lv_has ls 2 [(0, .ref b), (1, .int i)] := hl
  refine lv_aload_n hx hb dX0_hasPairAt_0 rfl (lv_at hl 0 rfl) ?_
  refine lv_iload_n hx hb dX0_hasPairAt_1 rfl (lv_at hl 1 rfl) ?_
  refine rdV (rest := []) zS hK hP (m_X0_hasLetterAt l g b cs n (by omega) i) cw_X0_hasLetterAt q273 [0, 1] rfl 0 rfl rfl ⟨Nat.le_of_ble_eq_true rfl, Nat.le_of_ble_eq_true rfl, rfl, rfl⟩ rfl rfl (Nat.le_of_ble_eq_true rfl) hl.1 dX0_hasPairAt_2 ⟨Nat.zero_le _, Nat.zero_le _⟩ ?_
  refine lv_if_eq (tgt := 22) hx hb dX0_hasPairAt_5 (by decide) (fun c_5 => ?_) (fun c_5 => ?_)
  · skip
    have c_5 : (hlA cs n i) = false := bI_0.mp c_5
    refine lv_iconst (v := 0) hx hb dX0_hasPairAt_22 (by decide) ?_
    refine r_z hx hb hr hlk dX0_hasPairAt_23 (by decide) ?_
    simp only [bI, hpA, c_5, eq_self, Nat.add_zero, Nat.zero_add, decide_true, decide_false, Bool.not_true, Bool.not_false, Bool.and_true, Bool.true_and, Bool.and_false, Bool.false_and, Bool.or_true, Bool.true_or, Bool.or_false, Bool.false_or, reduceIte, Bool.false_eq_true]
  · skip
    have c_5 : (hlA cs n i) = true := bI_n0.mp c_5
    refine lv_aload_n hx hb dX0_hasPairAt_8 rfl (lv_at hl 0 rfl) ?_
    refine lv_iload_n hx hb dX0_hasPairAt_9 rfl (lv_at hl 1 rfl) ?_
    refine lv_iconst (v := 1) hx hb dX0_hasPairAt_10 (by decide) ?_
    refine lv_iadd hx hb dX0_hasPairAt_11 ?_
    refine rdV (rest := []) zS hK hP (m_X0_hasLetterAt l g b cs n (by omega) (i + 1)) cw_X0_hasLetterAt q273 [0, 1] rfl 0 rfl rfl ⟨Nat.le_of_ble_eq_true rfl, Nat.le_of_ble_eq_true rfl, rfl, rfl⟩ rfl rfl (Nat.le_of_ble_eq_true rfl) hl.1 dX0_hasPairAt_12 ⟨Nat.zero_le _, Nat.zero_le _⟩ ?_
    refine lv_if_eq (tgt := 22) hx hb dX0_hasPairAt_15 (by decide) (fun c_15 => ?_) (fun c_15 => ?_)
    · skip
      have c_15 : (hlA cs n (i + 1)) = false := bI_0.mp c_15
      refine lv_iconst (v := 0) hx hb dX0_hasPairAt_22 (by decide) ?_
      refine r_z hx hb hr hlk dX0_hasPairAt_23 (by decide) ?_
      simp only [bI, hpA, c_5, c_15, eq_self, Nat.add_zero, Nat.zero_add, decide_true, decide_false, Bool.not_true, Bool.not_false, Bool.and_true, Bool.true_and, Bool.and_false, Bool.false_and, Bool.or_true, Bool.true_or, Bool.or_false, Bool.false_or, reduceIte, Bool.false_eq_true]
    · skip
      have c_15 : (hlA cs n (i + 1)) = true := bI_n0.mp c_15
      refine lv_iconst (v := 1) hx hb dX0_hasPairAt_18 (by decide) ?_
      refine lv_goto (tgt := 23) hx hb dX0_hasPairAt_19 (by decide) ?_
      refine r_z hx hb hr hlk dX0_hasPairAt_23 (by decide) ?_
      simp only [bI, hpA, c_5, c_15, eq_self, Nat.add_zero, Nat.zero_add, decide_true, decide_false, Bool.not_true, Bool.not_false, Bool.and_true, Bool.true_and, Bool.and_false, Bool.false_and, Bool.or_true, Bool.true_or, Bool.or_false, Bool.false_or, reduceIte, Bool.false_eq_true]
theorem cw_X0_hasPairAt : CWV yX0_hasPairAt cX0_hasPairAt 2 (some .boolean) 1 := ⟨⟨q524, q63, by decide +kernel, by decide +kernel, by decide +kernel⟩, q522, q523⟩
set_option maxHeartbeats 4000000 in
set_option maxRecDepth 100000 in
theorem m_X0_letterAt (l : Launch) (g : GG) (b : Nat) (cs : Nat → Int32) (n : Nat) (hn : n ≤ 60) (k : Nat) (hk : k < 60) : MR l g yX0_letterAt cX0_letterAt 2 (some .int) ({ frames := 0, cells := 0, slots := 0, locals := 0 } : Room) [.ref b, .int (nI k)] (bW g b cs (nI n)) (some (.int (cs k - 97))) := by
  refine MR.of rfl (Nat.le_of_ble_eq_true rfl) ?_
  intro zp ze zs zm zbelow zmeth zc ls zS hr hlk hK hP hl
  obtain ⟨hx, hb, hml, hown, hts⟩ := id zS
  have hl : lv_has ls 2 [(0, .ref b), (1, .int (nI k))] := hl
  refine lv_aload_n hx hb dX0_letterAt_0 rfl (lv_at hl 0 rfl) ?_
  refine gf zS hK hP iG0 rfl 0 rfl 0 (by decide) q197 rfl rfl dX0_letterAt_1 ?_
  refine lv_iload_n hx hb dX0_letterAt_4 rfl (lv_at hl 1 rfl) ?_
  refine aldN (j := k) hx hb hK hP 1 0 rfl rfl rfl (by omega) (by decide) dX0_letterAt_5 ?_
  refine lv_bipush (v := 97) hx hb dX0_letterAt_6 (by decide) ?_
  refine lv_isub hx hb dX0_letterAt_8 ?_
  refine r_i hx hb hr hlk dX0_letterAt_9 ?_
  rfl
theorem cw_X0_letterAt : CWV yX0_letterAt cX0_letterAt 2 (some .int) 1 := ⟨⟨q520, q63, by decide +kernel, by decide +kernel, by decide +kernel⟩, q518, q519⟩
set_option maxHeartbeats 4000000 in
set_option maxRecDepth 100000 in
theorem m_X0_pairAt (l : Launch) (g : GG) (b : Nat) (cs : Nat → Int32) (n : Nat) (hn : n ≤ 60) (k : Nat) (hk : k + 1 < 60) : MR l g yX0_pairAt cX0_pairAt 2 (some .int) ({ frames := 1, cells := 0, slots := 0, locals := 21 } : Room) [.ref b, .int (nI k)] (bW g b cs (nI n)) (some (.int (10 * (cs k - 97) + (cs (k + 1) - 97)))) := by
  refine MR.of rfl (Nat.le_of_ble_eq_true rfl) ?_
  intro zp ze zs zm zbelow zmeth zc ls zS hr hlk hK hP hl
  obtain ⟨hx, hb, hml, hown, hts⟩ := id zS
  have hl : lv_has ls 2 [(0, .ref b), (1, .int (nI k))] := hl
  refine lv_bipush (v := 10) hx hb dX0_pairAt_0 (by decide) ?_
  refine lv_aload_n hx hb dX0_pairAt_2 rfl (lv_at hl 0 rfl) ?_
  refine lv_iload_n hx hb dX0_pairAt_3 rfl (lv_at hl 1 rfl) ?_
  refine rdV (rest := [.int 10]) zS hK hP (m_X0_letterAt l g b cs n (by omega) k (by omega)) cw_X0_letterAt q529 [0, 1] rfl 0 rfl rfl ⟨Nat.le_of_ble_eq_true rfl, Nat.le_of_ble_eq_true rfl, rfl, rfl⟩ rfl rfl (Nat.le_of_ble_eq_true rfl) hl.1 dX0_pairAt_4 ⟨Nat.zero_le _, Nat.zero_le _⟩ ?_
  refine lv_imul hx hb dX0_pairAt_7 ?_
  refine lv_aload_n hx hb dX0_pairAt_8 rfl (lv_at hl 0 rfl) ?_
  refine lv_iload_n hx hb dX0_pairAt_9 rfl (lv_at hl 1 rfl) ?_
  refine lv_iconst (v := 1) hx hb dX0_pairAt_10 (by decide) ?_
  refine lv_iadd hx hb dX0_pairAt_11 ?_
  refine topE (nI_add k 1) ?_
  refine rdV (rest := [.int (10 * (cs k - 97))]) zS hK hP (m_X0_letterAt l g b cs n (by omega) (k + 1) (by omega)) cw_X0_letterAt q529 [0, 1] rfl 0 rfl rfl ⟨Nat.le_of_ble_eq_true rfl, Nat.le_of_ble_eq_true rfl, rfl, rfl⟩ rfl rfl (Nat.le_of_ble_eq_true rfl) hl.1 dX0_pairAt_12 ⟨Nat.zero_le _, Nat.zero_le _⟩ ?_
  refine lv_iadd hx hb dX0_pairAt_15 ?_
  refine r_i hx hb hr hlk dX0_pairAt_16 ?_
  rfl
theorem cw_X0_pairAt : CWV yX0_pairAt cX0_pairAt 2 (some .int) 1 := ⟨⟨q528, q63, by decide +kernel, by decide +kernel, by decide +kernel⟩, q526, q527⟩
set_option maxHeartbeats 4000000 in
set_option maxRecDepth 100000 in
theorem m_X0_firstWrongPlace (l : Launch) (g : GG) (b : Nat) (cs : Nat → Int32) (n : Nat) (hn : n ≤ 60) : MR l g yX0_firstWrongPlace cX0_firstWrongPlace 3 (some .int) ({ frames := 1, cells := 0, slots := 0, locals := 21 } : Room) [.ref b] (bW g b cs (nI n)) (some (.int (nI (fwp cs n n 0)))) := by
  refine MR.of rfl (Nat.le_of_ble_eq_true rfl) ?_
  intro zp ze zs zm zbelow zmeth zc ls zS hr hlk hK hP hl
  obtain ⟨hx, hb, hml, hown, hts⟩ := id zS
  have hl : lv_has ls 3 [(0, .ref b)] := hl
  refine lv_iconst (v := 0) hx hb dX0_firstWrongPlace_0 (by decide) ?_
  refine lv_istore_n (lv' := [(1, .int 0), (0, .ref b)]) hx hb dX0_firstWrongPlace_1 rfl hl (by decide) rfl (fun ls hl => ?_)
  have loop_2 : ∀ (r_ : Nat) (k : Nat) (h_m : n - k < r_) (hk : k ≤ n) (hw : fwp cs n n 0 = fwp cs n (n - k) k), ∀ ls : Array Slot, lv_has ls 3 [(0, .ref b), (1, .int (nI k))] → W zp l ze ({ frames := 1, cells := 0, slots := 0, locals := 21 } : Room) zs zm ([.ref b] : List Value).toArray zbelow zmeth zc zs.heap [] 0 0 (MQ zbelow (QR (some (.int (nI (fwp cs n n 0))))) ([.ref b] : List Value).toArray zs 0 0 (fun _ => False)) (F0 zm 2 ls []) := by
    intro r_
    induction r_ with
    | zero => intro k h_m hk hw; exact absurd h_m (by omega)
    | succ r_ ih_2 =>
      intro k h_m hk hw ls hl
      refine lv_iload_n hx hb dX0_firstWrongPlace_2 rfl (lv_at hl 1 rfl) ?_
      refine lv_aload_n hx hb dX0_firstWrongPlace_3 rfl (lv_at hl 0 rfl) ?_
      refine gf zS hK hP iG0 rfl 0 rfl 1 (by decide) q199 rfl rfl dX0_firstWrongPlace_4 ?_
      refine lv_icmp_ge (tgt := 57) hx hb dX0_firstWrongPlace_7 (by decide) (fun c_7 => ?_) (fun c_7 => ?_)
      · skip
        have c_7 : n ≤ k := (nI_leI (a := n) (b := k) (by omega) (by omega)).mp c_7
        refine lv_aload_n hx hb dX0_firstWrongPlace_57 rfl (lv_at hl 0 rfl) ?_
        refine gf zS hK hP iG0 rfl 0 rfl 1 (by decide) q199 rfl rfl dX0_firstWrongPlace_58 ?_
        refine r_i hx hb hr hlk dX0_firstWrongPlace_61 ?_
        rw [← fwp_end hw (by omega) (Or.inr c_7)]; rw [show n = k by omega]
      · skip
        have c_7 : k < n := Nat.lt_of_not_le (fun z => c_7 ((nI_leI (a := n) (b := k) (by omega) (by omega)).mpr z))
        refine lv_aload_n hx hb dX0_firstWrongPlace_10 rfl (lv_at hl 0 rfl) ?_
        refine gf zS hK hP iG0 rfl 0 rfl 0 (by decide) q197 rfl rfl dX0_firstWrongPlace_11 ?_
        refine lv_iload_n hx hb dX0_firstWrongPlace_14 rfl (lv_at hl 1 rfl) ?_
        refine aldN (j := k) hx hb hK hP 1 0 rfl rfl rfl (by omega) (by decide) dX0_firstWrongPlace_15 ?_
        refine lv_bipush (v := 46) hx hb dX0_firstWrongPlace_16 (by decide) ?_
        refine lv_icmp_ne (tgt := 35) hx hb dX0_firstWrongPlace_18 (by decide) (fun c_18 => ?_) (fun c_18 => ?_)
        · skip
          refine lv_iconst (v := 0) hx hb dX0_firstWrongPlace_35 (by decide) ?_
          refine lv_istore_n (lv' := [(2, .int 0), (0, .ref b), (1, .int (nI k))]) hx hb dX0_firstWrongPlace_36 rfl hl (by decide) rfl (fun ls hl => ?_)
          refine lv_aload_n hx hb dX0_firstWrongPlace_37 rfl (lv_at hl 1 rfl) ?_
          refine lv_iload_n hx hb dX0_firstWrongPlace_38 rfl (lv_at hl 2 rfl) ?_
          refine rdV (rest := []) zS hK hP (m_X0_hasLetterAt l g b cs n (by omega) (nI k)) cw_X0_hasLetterAt q273 [0, 1] rfl 0 rfl rfl ⟨Nat.le_of_ble_eq_true rfl, Nat.le_of_ble_eq_true rfl, rfl, rfl⟩ rfl rfl (Nat.le_of_ble_eq_true rfl) hl.1 dX0_firstWrongPlace_39 ⟨Nat.zero_le _, Nat.zero_le _⟩ ?_
          refine lv_if_ne (tgt := 51) hx hb dX0_firstWrongPlace_42 (by decide) (fun c_42 => ?_) (fun c_42 => ?_)
          · skip
            have c_42 : (hlA cs n (nI k)) = true := bI_n0.mp c_42
            refine lv_iinc (v := nI (k + 1)) (lv' := [(1, .int (nI (k + 1))), (2, .int 0), (0, .ref b)]) hx hb dX0_firstWrongPlace_51 hl (k := 2) rfl (by first | exact nI_add _ 1 | exact nI_1 _) (by decide) rfl (fun ls hl => ?_)
            refine lv_goto (tgt := 2) hx hb dX0_firstWrongPlace_54 (by decide) ?_
            exact ih_2 (k + 1) (by omega) (by omega) (fwp_go hw (by omega) (by simp only [okc, c_7, c_18, c_42, eq_self, Nat.add_zero, Nat.zero_add, decide_true, decide_false, Bool.not_true, Bool.not_false, Bool.and_true, Bool.true_and, Bool.and_false, Bool.false_and, Bool.or_true, Bool.true_or, Bool.or_false, Bool.false_or, reduceIte, Bool.false_eq_true])) _ (lv_sub hl [2, 0] rfl)
          · skip
            have c_42 : (hlA cs n (nI k)) = false := bI_0.mp c_42
            refine lv_iload_n hx hb dX0_firstWrongPlace_45 rfl (lv_at hl 0 rfl) ?_
            refine lv_if_ne (tgt := 51) hx hb dX0_firstWrongPlace_46 (by decide) (fun c_46 => ?_) (fun c_46 => ?_)
            · skip
              exact absurd c_46 (by decide)
            · skip
              refine lv_iload_n hx hb dX0_firstWrongPlace_49 rfl (lv_at hl 2 rfl) ?_
              refine r_i hx hb hr hlk dX0_firstWrongPlace_50 ?_
              rw [← fwp_end hw (by omega) (Or.inl (by simp only [okc, c_7, c_18, c_42, c_46, eq_self, Nat.add_zero, Nat.zero_add, decide_true, decide_false, Bool.not_true, Bool.not_false, Bool.and_true, Bool.true_and, Bool.and_false, Bool.false_and, Bool.or_true, Bool.true_or, Bool.or_false, Bool.false_or, reduceIte, Bool.false_eq_true]))]
        · skip
          refine lv_aload_n hx hb dX0_firstWrongPlace_21 rfl (lv_at hl 0 rfl) ?_
          refine lv_iload_n hx hb dX0_firstWrongPlace_22 rfl (lv_at hl 1 rfl) ?_
          refine lv_iconst (v := 1) hx hb dX0_firstWrongPlace_23 (by decide) ?_
          refine lv_isub hx hb dX0_firstWrongPlace_24 ?_
          refine rdV (rest := []) zS hK hP (m_X0_hasLetterAt l g b cs n (by omega) ((nI k) - 1)) cw_X0_hasLetterAt q273 [0, 1] rfl 0 rfl rfl ⟨Nat.le_of_ble_eq_true rfl, Nat.le_of_ble_eq_true rfl, rfl, rfl⟩ rfl rfl (Nat.le_of_ble_eq_true rfl) hl.1 dX0_firstWrongPlace_25 ⟨Nat.zero_le _, Nat.zero_le _⟩ ?_
          refine lv_if_eq (tgt := 35) hx hb dX0_firstWrongPlace_28 (by decide) (fun c_28 => ?_) (fun c_28 => ?_)
          · skip
            have c_28 : (hlA cs n ((nI k) - 1)) = false := bI_0.mp c_28
            refine lv_iconst (v := 0) hx hb dX0_firstWrongPlace_35 (by decide) ?_
            refine lv_istore_n (lv' := [(2, .int 0), (0, .ref b), (1, .int (nI k))]) hx hb dX0_firstWrongPlace_36 rfl hl (by decide) rfl (fun ls hl => ?_)
            refine lv_aload_n hx hb dX0_firstWrongPlace_37 rfl (lv_at hl 1 rfl) ?_
            refine lv_iload_n hx hb dX0_firstWrongPlace_38 rfl (lv_at hl 2 rfl) ?_
            refine rdV (rest := []) zS hK hP (m_X0_hasLetterAt l g b cs n (by omega) (nI k)) cw_X0_hasLetterAt q273 [0, 1] rfl 0 rfl rfl ⟨Nat.le_of_ble_eq_true rfl, Nat.le_of_ble_eq_true rfl, rfl, rfl⟩ rfl rfl (Nat.le_of_ble_eq_true rfl) hl.1 dX0_firstWrongPlace_39 ⟨Nat.zero_le _, Nat.zero_le _⟩ ?_
            refine lv_if_ne (tgt := 51) hx hb dX0_firstWrongPlace_42 (by decide) (fun c_42 => ?_) (fun c_42 => ?_)
            · skip
              have c_42 : (hlA cs n (nI k)) = true := bI_n0.mp c_42
              refine lv_iinc (v := nI (k + 1)) (lv' := [(1, .int (nI (k + 1))), (2, .int 0), (0, .ref b)]) hx hb dX0_firstWrongPlace_51 hl (k := 2) rfl (by first | exact nI_add _ 1 | exact nI_1 _) (by decide) rfl (fun ls hl => ?_)
              refine lv_goto (tgt := 2) hx hb dX0_firstWrongPlace_54 (by decide) ?_
              exact ih_2 (k + 1) (by omega) (by omega) (fwp_go hw (by omega) (by simp only [okc, c_7, c_18, c_28, c_42, eq_self, Nat.add_zero, Nat.zero_add, decide_true, decide_false, Bool.not_true, Bool.not_false, Bool.and_true, Bool.true_and, Bool.and_false, Bool.false_and, Bool.or_true, Bool.true_or, Bool.or_false, Bool.false_or, reduceIte, Bool.false_eq_true])) _ (lv_sub hl [2, 0] rfl)
            · skip
              have c_42 : (hlA cs n (nI k)) = false := bI_0.mp c_42
              refine lv_iload_n hx hb dX0_firstWrongPlace_45 rfl (lv_at hl 0 rfl) ?_
              refine lv_if_ne (tgt := 51) hx hb dX0_firstWrongPlace_46 (by decide) (fun c_46 => ?_) (fun c_46 => ?_)
              · skip
                exact absurd c_46 (by decide)
              · skip
                refine lv_iload_n hx hb dX0_firstWrongPlace_49 rfl (lv_at hl 2 rfl) ?_
                refine r_i hx hb hr hlk dX0_firstWrongPlace_50 ?_
                rw [← fwp_end hw (by omega) (Or.inl (by simp only [okc, c_7, c_18, c_28, c_42, c_46, eq_self, Nat.add_zero, Nat.zero_add, decide_true, decide_false, Bool.not_true, Bool.not_false, Bool.and_true, Bool.true_and, Bool.and_false, Bool.false_and, Bool.or_true, Bool.true_or, Bool.or_false, Bool.false_or, reduceIte, Bool.false_eq_true]))]
          · skip
            have c_28 : (hlA cs n ((nI k) - 1)) = true := bI_n0.mp c_28
            refine lv_iconst (v := 1) hx hb dX0_firstWrongPlace_31 (by decide) ?_
            refine lv_goto (tgt := 36) hx hb dX0_firstWrongPlace_32 (by decide) ?_
            refine lv_istore_n (lv' := [(2, .int 1), (0, .ref b), (1, .int (nI k))]) hx hb dX0_firstWrongPlace_36 rfl hl (by decide) rfl (fun ls hl => ?_)
            refine lv_aload_n hx hb dX0_firstWrongPlace_37 rfl (lv_at hl 1 rfl) ?_
            refine lv_iload_n hx hb dX0_firstWrongPlace_38 rfl (lv_at hl 2 rfl) ?_
            refine rdV (rest := []) zS hK hP (m_X0_hasLetterAt l g b cs n (by omega) (nI k)) cw_X0_hasLetterAt q273 [0, 1] rfl 0 rfl rfl ⟨Nat.le_of_ble_eq_true rfl, Nat.le_of_ble_eq_true rfl, rfl, rfl⟩ rfl rfl (Nat.le_of_ble_eq_true rfl) hl.1 dX0_firstWrongPlace_39 ⟨Nat.zero_le _, Nat.zero_le _⟩ ?_
            refine lv_if_ne (tgt := 51) hx hb dX0_firstWrongPlace_42 (by decide) (fun c_42 => ?_) (fun c_42 => ?_)
            · skip
              have c_42 : (hlA cs n (nI k)) = true := bI_n0.mp c_42
              refine lv_iinc (v := nI (k + 1)) (lv' := [(1, .int (nI (k + 1))), (2, .int 1), (0, .ref b)]) hx hb dX0_firstWrongPlace_51 hl (k := 2) rfl (by first | exact nI_add _ 1 | exact nI_1 _) (by decide) rfl (fun ls hl => ?_)
              refine lv_goto (tgt := 2) hx hb dX0_firstWrongPlace_54 (by decide) ?_
              exact ih_2 (k + 1) (by omega) (by omega) (fwp_go hw (by omega) (by simp only [okc, c_7, c_18, c_28, c_42, eq_self, Nat.add_zero, Nat.zero_add, decide_true, decide_false, Bool.not_true, Bool.not_false, Bool.and_true, Bool.true_and, Bool.and_false, Bool.false_and, Bool.or_true, Bool.true_or, Bool.or_false, Bool.false_or, reduceIte, Bool.false_eq_true])) _ (lv_sub hl [2, 0] rfl)
            · skip
              have c_42 : (hlA cs n (nI k)) = false := bI_0.mp c_42
              refine lv_iload_n hx hb dX0_firstWrongPlace_45 rfl (lv_at hl 0 rfl) ?_
              refine lv_if_ne (tgt := 51) hx hb dX0_firstWrongPlace_46 (by decide) (fun c_46 => ?_) (fun c_46 => ?_)
              · skip
                refine lv_iinc (v := nI (k + 1)) (lv' := [(1, .int (nI (k + 1))), (2, .int 1), (0, .ref b)]) hx hb dX0_firstWrongPlace_51 hl (k := 2) rfl (by first | exact nI_add _ 1 | exact nI_1 _) (by decide) rfl (fun ls hl => ?_)
                refine lv_goto (tgt := 2) hx hb dX0_firstWrongPlace_54 (by decide) ?_
                exact ih_2 (k + 1) (by omega) (by omega) (fwp_go hw (by omega) (by simp only [okc, c_7, c_18, c_28, c_42, c_46, eq_self, Nat.add_zero, Nat.zero_add, decide_true, decide_false, Bool.not_true, Bool.not_false, Bool.and_true, Bool.true_and, Bool.and_false, Bool.false_and, Bool.or_true, Bool.true_or, Bool.or_false, Bool.false_or, reduceIte, Bool.false_eq_true])) _ (lv_sub hl [2, 0] rfl)
              · skip
                exact absurd c_46 (by decide)
  exact loop_2 (n + 1) 0 (by omega) (by omega) rfl _ (lv_sub hl [1, 0] rfl)
theorem cw_X0_firstWrongPlace : CWV yX0_firstWrongPlace cX0_firstWrongPlace 3 (some .int) 0 := ⟨⟨q272, q63, by decide +kernel, by decide +kernel, by decide +kernel⟩, q270, q271⟩
set_option maxHeartbeats 4000000 in
set_option maxRecDepth 100000 in
theorem m_X0_tellsText (l : Launch) (g : GG) (b : Nat) (cs : Nat → Int32) (n : Nat) (hn : n ≤ 60) : MR l g yX0_tellsText cX0_tellsText 1 (some .boolean) ({ frames := 2, cells := 0, slots := 0, locals := 43 } : Room) [.ref b] (bW g b cs (nI n)) (some (.int (bI (ttx cs n)))) := by
  refine MR.of rfl (Nat.le_of_ble_eq_true rfl) ?_
  intro zp ze zs zm zbelow zmeth zc ls zS hr hlk hK hP hl
  obtain ⟨hx, hb, hml, hown, hts⟩ := id zS
  have hl : lv_has ls 1 [(0, .ref b)] := hl
  have hfw := fwp_le cs n n 0
  refine lv_aload_n hx hb dX0_tellsText_0 rfl (lv_at hl 0 rfl) ?_
  refine rdV (rest := []) zS hK hP (m_X0_firstWrongPlace l g b cs n (by omega)) cw_X0_firstWrongPlace q506 [0, 1] rfl 0 rfl rfl ⟨Nat.le_of_ble_eq_true rfl, Nat.le_of_ble_eq_true rfl, rfl, rfl⟩ rfl rfl (Nat.le_of_ble_eq_true rfl) hl.1 dX0_tellsText_1 ⟨Nat.zero_le _, Nat.zero_le _⟩ ?_
  refine lv_aload_n hx hb dX0_tellsText_4 rfl (lv_at hl 0 rfl) ?_
  refine gf zS hK hP iG0 rfl 0 rfl 1 (by decide) q199 rfl rfl dX0_tellsText_5 ?_
  refine lv_icmp_ne (tgt := 28) hx hb dX0_tellsText_8 (by decide) (fun c_8 => ?_) (fun c_8 => ?_)
  · skip
    have c_8 : fwp cs n n 0 ≠ n := fun z => c_8 ((nI_eq (a := fwp cs n n 0) (b := n) (by omega) (by omega)).mpr z)
    refine lv_iconst (v := 0) hx hb dX0_tellsText_28 (by decide) ?_
    refine r_z hx hb hr hlk dX0_tellsText_29 (by decide) ?_
    simp [bI, ttx, *]
  · skip
    have c_8 : fwp cs n n 0 = n := (nI_eq (a := fwp cs n n 0) (b := n) (by omega) (by omega)).mp c_8
    refine lv_aload_n hx hb dX0_tellsText_11 rfl (lv_at hl 0 rfl) ?_
    refine lv_aload_n hx hb dX0_tellsText_12 rfl (lv_at hl 0 rfl) ?_
    refine gf zS hK hP iG0 rfl 0 rfl 1 (by decide) q199 rfl rfl dX0_tellsText_13 ?_
    refine lv_iconst (v := 1) hx hb dX0_tellsText_16 (by decide) ?_
    refine lv_isub hx hb dX0_tellsText_17 ?_
    refine rdV (rest := []) zS hK hP (m_X0_hasLetterAt l g b cs n (by omega) ((nI n) - 1)) cw_X0_hasLetterAt q273 [0, 1] rfl 0 rfl rfl ⟨Nat.le_of_ble_eq_true rfl, Nat.le_of_ble_eq_true rfl, rfl, rfl⟩ rfl rfl (Nat.le_of_ble_eq_true rfl) hl.1 dX0_tellsText_18 ⟨Nat.zero_le _, Nat.zero_le _⟩ ?_
    refine lv_if_eq (tgt := 28) hx hb dX0_tellsText_21 (by decide) (fun c_21 => ?_) (fun c_21 => ?_)
    · skip
      have c_21 : (hlA cs n ((nI n) - 1)) = false := bI_0.mp c_21
      refine lv_iconst (v := 0) hx hb dX0_tellsText_28 (by decide) ?_
      refine r_z hx hb hr hlk dX0_tellsText_29 (by decide) ?_
      simp [bI, ttx, *]
    · skip
      have c_21 : (hlA cs n ((nI n) - 1)) = true := bI_n0.mp c_21
      refine lv_iconst (v := 1) hx hb dX0_tellsText_24 (by decide) ?_
      refine lv_goto (tgt := 29) hx hb dX0_tellsText_25 (by decide) ?_
      refine r_z hx hb hr hlk dX0_tellsText_29 (by decide) ?_
      simp [bI, ttx, *]
theorem cw_X0_tellsText : CWV yX0_tellsText cX0_tellsText 1 (some .boolean) 0 := ⟨⟨q505, q63, by decide +kernel, by decide +kernel, by decide +kernel⟩, q503, q504⟩
end
section
/-! KernLessons$State and KernLessons$Table -/
abbrev nn (x : Int32) : Nat := x.toNatClampNeg
/-- the shapes of all letters are 0 to 3 -/
def ShOk (S : Nat → Nat → Int32) : Prop := ∀ j, j < 10 → (S 2 j = nI (nn (S 2 j)) ∧ nn (S 2 j) < 4) ∧ (S 3 j = nI (nn (S 3 j)) ∧ nn (S 3 j) < 4)
/-- where a pair meets -/
def sh (S : Nat → Nat → Int32) (p : Nat) : Nat := 4 * nn (S 3 (p / 10)) + nn (S 2 (p % 10))
theorem sh_lt {S : Nat → Nat → Int32} (h : ShOk S) {p : Nat} (hp : p < 100) : sh S p < 16 := by
  have h1 := (h (p / 10) (by omega)).2.2
  have h2 := (h (p % 10) (by omega)).1.2
  unfold sh
  omega
/-- the kerning of a pair -/
def kp (S T : Nat → Nat → Int32) (p : Nat) : Int32 := T 1 (sh S p) + T 2 p
/-- np pairs have learnt; their row holds pairs -/
def LpOk (T : Nat → Nat → Int32) (np : Nat) : Prop := T 0 6 = nI np ∧ np ≤ 100 ∧ ∀ i, i < np → T 6 i = nI (nn (T 6 i)) ∧ nn (T 6 i) < 100
def ptaP (S T : Nat → Nat → Int32) (x : Nat) (told : Int32) (i : Nat) : Bool := !decide (T 2 (nn (T 6 i)) * told ≤ 0) && decide (sh S (nn (T 6 i)) = x)

set_option maxHeartbeats 4000000 in
set_option maxRecDepth 100000 in
theorem m_X2_shapesOfPair (l : Launch) (g : GG) (s t0 : Nat) (S : Nat → Nat → Int32) (hSh : ShOk S) (p : Nat) (hp : p < 100) : MR l g yX2_shapesOfPair cX2_shapesOfPair 2 (some .int) ({ frames := 0, cells := 0, slots := 0, locals := 0 } : Room) [.ref s, .int (nI p)] (sW g s t0 S) (some (.int (nI (sh S p)))) := by
  refine MR.of rfl (Nat.le_of_ble_eq_true rfl) ?_
  intro zp ze zs zm zbelow zmeth zc ls zS hr hlk hK hP hl
  obtain ⟨hx, hb, hml, hown, hts⟩ := id zS
  have hl : lv_has ls 2 [(0, .ref s), (1, .int (nI p))] := hl
  refine lv_iconst (v := 4) hx hb dX2_shapesOfPair_0 (by decide) ?_
  refine lv_aload_n hx hb dX2_shapesOfPair_1 rfl (lv_at hl 0 rfl) ?_
  refine gf zS hK hP iG2 rfl 0 rfl 2 (by decide) q138 rfl rfl dX2_shapesOfPair_2 ?_
  refine lv_iload_n hx hb dX2_shapesOfPair_5 rfl (lv_at hl 1 rfl) ?_
  refine lv_bipush (v := 10) hx hb dX2_shapesOfPair_6 (by decide) ?_
  refine lv_idiv hx hb dX2_shapesOfPair_8 (by decide) ?_
  refine topE (pk_div (a := p) (d := 10) (by omega) (by omega) (by omega)) ?_
  refine aldN (j := (p / 10)) hx hb hK hP 3 0 rfl rfl rfl (by omega) (by decide) dX2_shapesOfPair_9 ?_
  have hb_9 := (hSh (p / 10) (by omega)).2.2
  refine topE ((hSh (p / 10) (by omega)).2.1) ?_
  refine lv_imul hx hb dX2_shapesOfPair_10 ?_
  refine topE (pk_mul 4 (nn (S 3 (p / 10)))) ?_
  refine lv_aload_n hx hb dX2_shapesOfPair_11 rfl (lv_at hl 0 rfl) ?_
  refine gf zS hK hP iG2 rfl 0 rfl 1 (by decide) q136 rfl rfl dX2_shapesOfPair_12 ?_
  refine lv_iload_n hx hb dX2_shapesOfPair_15 rfl (lv_at hl 1 rfl) ?_
  refine lv_bipush (v := 10) hx hb dX2_shapesOfPair_16 (by decide) ?_
  refine lv_irem hx hb dX2_shapesOfPair_18 (by decide) ?_
  refine topE (pk_rem (a := p) (d := 10) (by omega) (by omega) (by omega)) ?_
  refine aldN (j := (p % 10)) hx hb hK hP 2 0 rfl rfl rfl (by omega) (by decide) dX2_shapesOfPair_19 ?_
  have hb_19 := (hSh (p % 10) (by omega)).1.2
  refine topE ((hSh (p % 10) (by omega)).1.1) ?_
  refine lv_iadd hx hb dX2_shapesOfPair_20 ?_
  refine topE (nI_add (4 * (nn (S 3 (p / 10)))) (nn (S 2 (p % 10)))) ?_
  refine r_i hx hb hr hlk dX2_shapesOfPair_21 ?_
  rfl
theorem cw_X2_shapesOfPair : CWV yX2_shapesOfPair cX2_shapesOfPair 2 (some .int) 1 := ⟨⟨q310, q61, by decide +kernel, by decide +kernel, by decide +kernel⟩, q308, q309⟩
set_option maxHeartbeats 4000000 in
set_option maxRecDepth 100000 in
theorem m_X3_kerningOfPair (l : Launch) (g : GG) (t : Nat) (T : Nat → Nat → Int32) (s t0 : Nat) (S : Nat → Nat → Int32) (hSh : ShOk S) (p : Nat) (hp : p < 100) : MR l g yX3_kerningOfPair cX3_kerningOfPair 3 (some .int) ({ frames := 1, cells := 0, slots := 0, locals := 21 } : Room) [.ref t, .ref s, .int (nI p)] (tW g t T ++ sW g s t0 S) (some (.int (kp S T p))) := by
  refine MR.of rfl (Nat.le_of_ble_eq_true rfl) ?_
  intro zp ze zs zm zbelow zmeth zc ls zS hr hlk hK hP hl
  obtain ⟨hx, hb, hml, hown, hts⟩ := id zS
  have hl : lv_has ls 3 [(0, .ref t), (1, .ref s), (2, .int (nI p))] := hl
  have hx16 := sh_lt hSh hp
  refine lv_aload_n hx hb dX3_kerningOfPair_0 rfl (lv_at hl 0 rfl) ?_
  refine gf zS hK hP iG3 rfl 0 rfl 0 (by decide) q95 rfl rfl dX3_kerningOfPair_1 ?_
  refine lv_aload_n hx hb dX3_kerningOfPair_4 rfl (lv_at hl 1 rfl) ?_
  refine lv_iload_n hx hb dX3_kerningOfPair_5 rfl (lv_at hl 2 rfl) ?_
  refine rdV (rest := [.ref (t + 1)]) zS hK hP (m_X2_shapesOfPair l g s t0 S hSh p (by omega)) cw_X2_shapesOfPair q307 [8, 9, 10, 11, 12, 13, 14, 15] rfl 8 rfl rfl ⟨Nat.le_of_ble_eq_true rfl, Nat.le_of_ble_eq_true rfl, rfl, rfl⟩ rfl rfl (Nat.le_of_ble_eq_true rfl) hl.1 dX3_kerningOfPair_6 ⟨Nat.zero_le _, Nat.zero_le _⟩ ?_
  refine aldN (j := (sh S p)) hx hb hK hP 1 0 rfl rfl rfl (by omega) (by decide) dX3_kerningOfPair_9 ?_
  refine lv_aload_n hx hb dX3_kerningOfPair_10 rfl (lv_at hl 0 rfl) ?_
  refine gf zS hK hP iG3 rfl 0 rfl 1 (by decide) q98 rfl rfl dX3_kerningOfPair_11 ?_
  refine lv_iload_n hx hb dX3_kerningOfPair_14 rfl (lv_at hl 2 rfl) ?_
  refine aldN (j := p) hx hb hK hP 2 0 rfl rfl rfl (by omega) (by decide) dX3_kerningOfPair_15 ?_
  refine lv_iadd hx hb dX3_kerningOfPair_16 ?_
  refine r_i hx hb hr hlk dX3_kerningOfPair_17 ?_
  rfl
theorem cw_X3_kerningOfPair : CWV yX3_kerningOfPair cX3_kerningOfPair 3 (some .int) 2 := ⟨⟨q306, q62, by decide +kernel, by decide +kernel, by decide +kernel⟩, q304, q305⟩
set_option maxHeartbeats 4000000 in
set_option maxRecDepth 100000 in
theorem m_X3_pairsThatAgree (l : Launch) (g : GG) (t : Nat) (T : Nat → Nat → Int32) (s t0 : Nat) (S : Nat → Nat → Int32) (hSh : ShOk S) (np : Nat) (hT : LpOk T np) (x : Nat) (hx16 : x < 16) (told : Int32) : MR l g yX3_pairsThatAgree cX3_pairsThatAgree 7 (some .int) ({ frames := 1, cells := 0, slots := 0, locals := 21 } : Room) [.ref t, .ref s, .int (nI x), .int told] (tW g t T ++ sW g s t0 S) (some (.int (nI (cn (ptaP S T x told) np)))) := by
  refine MR.of rfl (Nat.le_of_ble_eq_true rfl) ?_
  intro zp ze zs zm zbelow zmeth zc ls zS hr hlk hK hP hl
  obtain ⟨hx, hb, hml, hown, hts⟩ := id zS
  have hl : lv_has ls 7 [(0, .ref t), (1, .ref s), (2, .int (nI x)), (3, .int told)] := hl
  have hnp := hT.2.1
  refine lv_iconst (v := 0) hx hb dX3_pairsThatAgree_0 (by decide) ?_
  refine lv_istore (lv' := [(4, .int 0), (0, .ref t), (1, .ref s), (2, .int (nI x)), (3, .int told)]) hx hb dX3_pairsThatAgree_1 hl (by decide) rfl (fun ls hl => ?_)
  refine lv_iconst (v := 0) hx hb dX3_pairsThatAgree_3 (by decide) ?_
  refine lv_istore (lv' := [(5, .int 0), (4, .int 0), (0, .ref t), (1, .ref s), (2, .int (nI x)), (3, .int told)]) hx hb dX3_pairsThatAgree_4 hl (by decide) rfl (fun ls hl => ?_)
  have loop_6 : ∀ (r_ : Nat) (i a : Nat) (h_m : np - i < r_) (hi : i ≤ np) (ha : a = cn (ptaP S T x told) i), ∀ ls : Array Slot, lv_has ls 7 [(0, .ref t), (1, .ref s), (2, .int (nI x)), (3, .int told), (4, .int (nI a)), (5, .int (nI i))] → W zp l ze ({ frames := 1, cells := 0, slots := 0, locals := 21 } : Room) zs zm ([.ref t, .ref s, .int (nI x), .int told] : List Value).toArray zbelow zmeth zc zs.heap [] 0 0 (MQ zbelow (QR (some (.int (nI (cn (ptaP S T x told) np))))) ([.ref t, .ref s, .int (nI x), .int told] : List Value).toArray zs 0 0 (fun _ => False)) (F0 zm 6 ls []) := by
    intro r_
    induction r_ with
    | zero => intro i a h_m hi ha; exact absurd h_m (by omega)
    | succ r_ ih_6 =>
      intro i a h_m hi ha ls hl
      refine lv_iload hx hb dX3_pairsThatAgree_6 (lv_at hl 5 rfl) ?_
      refine lv_aload_n hx hb dX3_pairsThatAgree_8 rfl (lv_at hl 0 rfl) ?_
      refine gf zS hK hP iG3 rfl 0 rfl 6 (by decide) q107 rfl rfl dX3_pairsThatAgree_9 ?_
      refine topE (hT.1) ?_
      refine lv_icmp_ge (tgt := 55) hx hb dX3_pairsThatAgree_12 (by decide) (fun c_12 => ?_) (fun c_12 => ?_)
      · skip
        have c_12 : np ≤ i := (nI_leI (a := np) (b := i) (by omega) (by omega)).mp c_12
        refine lv_iload hx hb dX3_pairsThatAgree_55 (lv_at hl 4 rfl) ?_
        refine r_i hx hb hr hlk dX3_pairsThatAgree_57 ?_
        rw [ha, show i = np by omega]
      · skip
        have c_12 : i < np := Nat.lt_of_not_le (fun z => c_12 ((nI_leI (a := np) (b := i) (by omega) (by omega)).mpr z))
        refine lv_aload_n hx hb dX3_pairsThatAgree_15 rfl (lv_at hl 0 rfl) ?_
        refine gf zS hK hP iG3 rfl 0 rfl 5 (by decide) q105 rfl rfl dX3_pairsThatAgree_16 ?_
        refine lv_iload hx hb dX3_pairsThatAgree_19 (lv_at hl 5 rfl) ?_
        refine aldN (j := i) hx hb hK hP 6 0 rfl rfl rfl (by omega) (by decide) dX3_pairsThatAgree_21 ?_
        have hb_21 := (hT.2.2 i (by omega)).2
        refine topE ((hT.2.2 i (by omega)).1) ?_
        refine lv_istore (lv' := [(6, .int (nI (nn (T 6 i)))), (0, .ref t), (1, .ref s), (2, .int (nI x)), (3, .int told), (4, .int (nI a)), (5, .int (nI i))]) hx hb dX3_pairsThatAgree_22 hl (by decide) rfl (fun ls hl => ?_)
        refine lv_aload_n hx hb dX3_pairsThatAgree_24 rfl (lv_at hl 1 rfl) ?_
        refine gf zS hK hP iG3 rfl 0 rfl 1 (by decide) q98 rfl rfl dX3_pairsThatAgree_25 ?_
        refine lv_iload hx hb dX3_pairsThatAgree_28 (lv_at hl 0 rfl) ?_
        refine aldN (j := (nn (T 6 i))) hx hb hK hP 2 0 rfl rfl rfl (by omega) (by decide) dX3_pairsThatAgree_30 ?_
        refine lv_iload_n hx hb dX3_pairsThatAgree_31 rfl (lv_at hl 4 rfl) ?_
        refine lv_imul hx hb dX3_pairsThatAgree_32 ?_
        refine lv_if_le (tgt := 49) hx hb dX3_pairsThatAgree_33 (by decide) (fun c_33 => ?_) (fun c_33 => ?_)
        · skip
          refine lv_iinc (v := nI (i + 1)) (lv' := [(5, .int (nI (i + 1))), (6, .int (nI (nn (T 6 i)))), (0, .ref t), (1, .ref s), (2, .int (nI x)), (3, .int told), (4, .int (nI a))]) hx hb dX3_pairsThatAgree_49 hl (k := 6) rfl (by first | exact nI_add _ 1 | exact nI_1 _) (by decide) rfl (fun ls hl => ?_)
          refine lv_goto (tgt := 6) hx hb dX3_pairsThatAgree_52 (by decide) ?_
          exact ih_6 (i + 1) (a) (by omega) (by omega) (by simp only [cn, ptaP, ha, c_12, c_33, eq_self, Nat.add_zero, Nat.zero_add, decide_true, decide_false, Bool.not_true, Bool.not_false, Bool.and_true, Bool.true_and, Bool.and_false, Bool.false_and, Bool.or_true, Bool.true_or, Bool.or_false, Bool.false_or, reduceIte, Bool.false_eq_true]) _ (lv_sub hl [2, 3, 4, 5, 6, 0] rfl)
        · skip
          refine lv_aload_n hx hb dX3_pairsThatAgree_36 rfl (lv_at hl 2 rfl) ?_
          refine lv_iload hx hb dX3_pairsThatAgree_37 (lv_at hl 0 rfl) ?_
          refine rdV (rest := []) zS hK hP (m_X2_shapesOfPair l g s t0 S hSh (nn (T 6 i)) (by omega)) cw_X2_shapesOfPair q307 [8, 9, 10, 11, 12, 13, 14, 15] rfl 8 rfl rfl ⟨Nat.le_of_ble_eq_true rfl, Nat.le_of_ble_eq_true rfl, rfl, rfl⟩ rfl rfl (Nat.le_of_ble_eq_true rfl) hl.1 dX3_pairsThatAgree_39 ⟨Nat.zero_le _, Nat.zero_le _⟩ ?_
          have hsx := sh_lt hSh hb_21
          refine lv_iload_n hx hb dX3_pairsThatAgree_42 rfl (lv_at hl 3 rfl) ?_
          refine lv_icmp_ne (tgt := 49) hx hb dX3_pairsThatAgree_43 (by decide) (fun c_43 => ?_) (fun c_43 => ?_)
          · skip
            have c_43 : sh S (nn (T 6 i)) ≠ x := fun z => c_43 ((nI_eq (a := sh S (nn (T 6 i))) (b := x) (by omega) (by omega)).mpr z)
            have := sh_lt hSh hb_21
            refine lv_iinc (v := nI (i + 1)) (lv' := [(5, .int (nI (i + 1))), (6, .int (nI (nn (T 6 i)))), (0, .ref t), (1, .ref s), (2, .int (nI x)), (3, .int told), (4, .int (nI a))]) hx hb dX3_pairsThatAgree_49 hl (k := 6) rfl (by first | exact nI_add _ 1 | exact nI_1 _) (by decide) rfl (fun ls hl => ?_)
            refine lv_goto (tgt := 6) hx hb dX3_pairsThatAgree_52 (by decide) ?_
            exact ih_6 (i + 1) (a) (by omega) (by omega) (by simp only [cn, ptaP, ha, c_12, c_33, c_43, eq_self, Nat.add_zero, Nat.zero_add, decide_true, decide_false, Bool.not_true, Bool.not_false, Bool.and_true, Bool.true_and, Bool.and_false, Bool.false_and, Bool.or_true, Bool.true_or, Bool.or_false, Bool.false_or, reduceIte, Bool.false_eq_true]) _ (lv_sub hl [2, 3, 4, 5, 6, 0] rfl)
          · skip
            have c_43 : sh S (nn (T 6 i)) = x := (nI_eq (a := sh S (nn (T 6 i))) (b := x) (by omega) (by omega)).mp c_43
            refine lv_iinc (v := nI (a + 1)) (lv' := [(4, .int (nI (a + 1))), (6, .int (nI (nn (T 6 i)))), (0, .ref t), (1, .ref s), (2, .int (nI x)), (3, .int told), (5, .int (nI i))]) hx hb dX3_pairsThatAgree_46 hl (k := 5) rfl (by first | exact nI_add _ 1 | exact nI_1 _) (by decide) rfl (fun ls hl => ?_)
            refine lv_iinc (v := nI (i + 1)) (lv' := [(5, .int (nI (i + 1))), (4, .int (nI (a + 1))), (6, .int (nI (nn (T 6 i)))), (0, .ref t), (1, .ref s), (2, .int (nI x)), (3, .int told)]) hx hb dX3_pairsThatAgree_49 hl (k := 6) rfl (by first | exact nI_add _ 1 | exact nI_1 _) (by decide) rfl (fun ls hl => ?_)
            refine lv_goto (tgt := 6) hx hb dX3_pairsThatAgree_52 (by decide) ?_
            exact ih_6 (i + 1) (a + 1) (by omega) (by omega) (by simp only [cn, ptaP, ha, c_12, c_33, c_43, eq_self, Nat.add_zero, Nat.zero_add, decide_true, decide_false, Bool.not_true, Bool.not_false, Bool.and_true, Bool.true_and, Bool.and_false, Bool.false_and, Bool.or_true, Bool.true_or, Bool.or_false, Bool.false_or, reduceIte, Bool.false_eq_true]) _ (lv_sub hl [3, 4, 5, 6, 1, 0] rfl)
  exact loop_6 (np + 1) 0 0 (by omega) (by omega) rfl _ (lv_sub hl [2, 3, 4, 5, 1, 0] rfl)
theorem cw_X3_pairsThatAgree : CWV yX3_pairsThatAgree cX3_pairsThatAgree 7 (some .int) 3 := ⟨⟨q320, q62, by decide +kernel, by decide +kernel, by decide +kernel⟩, q319, q2⟩
/-- the own parts when the first n pairs that have learnt are gone through -/
def mvN (S T : Nat → Nat → Int32) (x : Nat) (told : Int32) : Nat → Nat → Int32
  | 0 => T 2
  | n + 1 => if sh S (nn (T 6 n)) = x then upd (mvN S T x told n) (nn (T 6 n)) (mvN S T x told n (nn (T 6 n)) - told) else mvN S T x told n
def mvT (S T : Nat → Nat → Int32) (x np : Nat) (told : Int32) : Nat → Nat → Int32 := rw_ (rw_ T 1 (upd (T 1) x (T 1 x + told))) 2 (mvN S T x told np)
set_option maxHeartbeats 4000000 in
set_option maxRecDepth 100000 in
theorem m_X3_moveShapes (l : Launch) (g : GG) (t : Nat) (T : Nat → Nat → Int32) (s t0 : Nat) (S : Nat → Nat → Int32) (hSh : ShOk S) (np : Nat) (hT : LpOk T np) (x : Nat) (hx16 : x < 16) (told : Int32) : MW l g yX3_moveShapes cX3_moveShapes 5 none ({ frames := 1, cells := 0, slots := 0, locals := 21 } : Room) [.ref t, .ref s, .int (nI x), .int told] (tW g t T ++ sW g s t0 S) (tW g t (mvT S T x np told) ++ sW g s t0 S) none := by
  refine MW.of rfl (Nat.le_of_ble_eq_true rfl) ?_
  intro zp ze zs zm zbelow zmeth zc ls zS hr hlk hK hP hD hS hl
  obtain ⟨hx, hb, hml, hown, hts⟩ := id zS
  have hl : lv_has ls 5 [(0, .ref t), (1, .ref s), (2, .int (nI x)), (3, .int told)] := hl
  have hnp := hT.2.1
  refine lv_aload_n hx hb dX3_moveShapes_0 rfl (lv_at hl 0 rfl) ?_
  refine gf zS hK hP iG3 rfl 0 rfl 0 (by decide) q95 rfl rfl dX3_moveShapes_1 ?_
  refine lv_iload_n hx hb dX3_moveShapes_4 rfl (lv_at hl 2 rfl) ?_
  refine lv_dup2_11 hx hb dX3_moveShapes_5 rfl rfl ?_
  refine aldN (j := x) hx hb hK hP 1 0 rfl rfl rfl (by omega) (by decide) dX3_moveShapes_6 ?_
  refine lv_iload_n hx hb dX3_moveShapes_7 rfl (lv_at hl 3 rfl) ?_
  refine lv_iadd hx hb dX3_moveShapes_8 ?_
  refine astN (j := x) hx hb hK hP hD hS 1 0 rfl rfl rfl (by omega) (by decide) dX3_moveShapes_9 (fun H locs hP hD hS => ?_)
  have hP : PP g [(t, .inr (3, [.ref (t + 1), .ref (t + 2), .ref (t + 3), .ref (t + 4), .ref (t + 5), .ref (t + 6), .int (T 0 6), .ref (t + 7)])), (t + 1, .inl (g.2 0, 16, .inl (upd (T 1) x ((T 1 x) + told)))), (t + 2, .inl (g.2 0, 100, .inl (T 2))), (t + 3, .inl (g.2 0, 100, .inl (T 3))), (t + 4, .inl (g.2 0, 100, .inl (T 4))), (t + 5, .inl (g.2 0, 100, .inl (T 5))), (t + 6, .inl (g.2 0, 100, .inl (T 6))), (t + 7, .inl (g.2 0, 40, .inl (T 7))), (s, .inr (2, [.ref (s + 1), .ref (s + 2), .ref (s + 3), .ref (s + 4), .ref (s + 5), .ref (s + 6), .ref (s + 7), .int (S 0 7), .ref t0, .int (S 0 9), .int (S 0 10), .int (S 0 11)])), (s + 1, .inl (g.2 0, 10, .inl (S 1))), (s + 2, .inl (g.2 0, 10, .inl (S 2))), (s + 3, .inl (g.2 0, 10, .inl (S 3))), (s + 4, .inl (g.2 0, 16, .inl (S 4))), (s + 5, .inl (g.2 0, 4, .inl (S 5))), (s + 6, .inl (g.2 0, 40, .inl (S 6))), (s + 7, .inl (g.2 0, 40, .inl (S 7)))] H := hP
  have hD : va_D (inW (tW g t T ++ sW g s t0 S)) [(t, .inr (3, [.ref (t + 1), .ref (t + 2), .ref (t + 3), .ref (t + 4), .ref (t + 5), .ref (t + 6), .int (T 0 6), .ref (t + 7)])), (t + 1, .inl (g.2 0, 16, .inl (upd (T 1) x ((T 1 x) + told)))), (t + 2, .inl (g.2 0, 100, .inl (T 2))), (t + 3, .inl (g.2 0, 100, .inl (T 3))), (t + 4, .inl (g.2 0, 100, .inl (T 4))), (t + 5, .inl (g.2 0, 100, .inl (T 5))), (t + 6, .inl (g.2 0, 100, .inl (T 6))), (t + 7, .inl (g.2 0, 40, .inl (T 7))), (s, .inr (2, [.ref (s + 1), .ref (s + 2), .ref (s + 3), .ref (s + 4), .ref (s + 5), .ref (s + 6), .ref (s + 7), .int (S 0 7), .ref t0, .int (S 0 9), .int (S 0 10), .int (S 0 11)])), (s + 1, .inl (g.2 0, 10, .inl (S 1))), (s + 2, .inl (g.2 0, 10, .inl (S 2))), (s + 3, .inl (g.2 0, 10, .inl (S 3))), (s + 4, .inl (g.2 0, 16, .inl (S 4))), (s + 5, .inl (g.2 0, 4, .inl (S 5))), (s + 6, .inl (g.2 0, 40, .inl (S 6))), (s + 7, .inl (g.2 0, 40, .inl (S 7)))] := hD
  refine lv_iconst (v := 0) hx hb dX3_moveShapes_10 (by decide) ?_
  refine lv_istore (lv' := [(4, .int 0), (0, .ref t), (1, .ref s), (2, .int (nI x)), (3, .int told)]) hx hb dX3_moveShapes_11 hl (by decide) rfl (fun ls hl => ?_)
  have loop_13 : ∀ (r_ : Nat) (i : Nat) (f : Nat → Int32) (h_m : np - i < r_) (hi : i ≤ np) (hf : f = mvN S T x told i), ∀ (H : Heap) (locs : List Loc), PP g [(t, .inr (3, [.ref (t + 1), .ref (t + 2), .ref (t + 3), .ref (t + 4), .ref (t + 5), .ref (t + 6), .int (T 0 6), .ref (t + 7)])), (t + 1, .inl (g.2 0, 16, .inl (upd (T 1) x ((T 1 x) + told)))), (t + 2, .inl (g.2 0, 100, .inl f)), (t + 3, .inl (g.2 0, 100, .inl (T 3))), (t + 4, .inl (g.2 0, 100, .inl (T 4))), (t + 5, .inl (g.2 0, 100, .inl (T 5))), (t + 6, .inl (g.2 0, 100, .inl (T 6))), (t + 7, .inl (g.2 0, 40, .inl (T 7))), (s, .inr (2, [.ref (s + 1), .ref (s + 2), .ref (s + 3), .ref (s + 4), .ref (s + 5), .ref (s + 6), .ref (s + 7), .int (S 0 7), .ref t0, .int (S 0 9), .int (S 0 10), .int (S 0 11)])), (s + 1, .inl (g.2 0, 10, .inl (S 1))), (s + 2, .inl (g.2 0, 10, .inl (S 2))), (s + 3, .inl (g.2 0, 10, .inl (S 3))), (s + 4, .inl (g.2 0, 16, .inl (S 4))), (s + 5, .inl (g.2 0, 4, .inl (S 5))), (s + 6, .inl (g.2 0, 40, .inl (S 6))), (s + 7, .inl (g.2 0, 40, .inl (S 7)))] H → va_D (inW (tW g t T ++ sW g s t0 S)) [(t, .inr (3, [.ref (t + 1), .ref (t + 2), .ref (t + 3), .ref (t + 4), .ref (t + 5), .ref (t + 6), .int (T 0 6), .ref (t + 7)])), (t + 1, .inl (g.2 0, 16, .inl (upd (T 1) x ((T 1 x) + told)))), (t + 2, .inl (g.2 0, 100, .inl f)), (t + 3, .inl (g.2 0, 100, .inl (T 3))), (t + 4, .inl (g.2 0, 100, .inl (T 4))), (t + 5, .inl (g.2 0, 100, .inl (T 5))), (t + 6, .inl (g.2 0, 100, .inl (T 6))), (t + 7, .inl (g.2 0, 40, .inl (T 7))), (s, .inr (2, [.ref (s + 1), .ref (s + 2), .ref (s + 3), .ref (s + 4), .ref (s + 5), .ref (s + 6), .ref (s + 7), .int (S 0 7), .ref t0, .int (S 0 9), .int (S 0 10), .int (S 0 11)])), (s + 1, .inl (g.2 0, 10, .inl (S 1))), (s + 2, .inl (g.2 0, 10, .inl (S 2))), (s + 3, .inl (g.2 0, 10, .inl (S 3))), (s + 4, .inl (g.2 0, 16, .inl (S 4))), (s + 5, .inl (g.2 0, 4, .inl (S 5))), (s + 6, .inl (g.2 0, 40, .inl (S 6))), (s + 7, .inl (g.2 0, 40, .inl (S 7)))] → va_S (inW (tW g t T ++ sW g s t0 S)) zs.heap H locs → ∀ ls : Array Slot, lv_has ls 5 [(0, .ref t), (1, .ref s), (2, .int (nI x)), (3, .int told), (4, .int (nI i))] → W zp l ze ({ frames := 1, cells := 0, slots := 0, locals := 21 } : Room) zs zm ([.ref t, .ref s, .int (nI x), .int told] : List Value).toArray zbelow zmeth zc H locs 0 0 (MQ zbelow (QW g (tW g t T ++ sW g s t0 S) (tW g t (mvT S T x np told) ++ sW g s t0 S) none) ([.ref t, .ref s, .int (nI x), .int told] : List Value).toArray zs 0 0 (inW (tW g t T ++ sW g s t0 S))) (F0 zm 13 ls []) := by
    intro r_
    induction r_ with
    | zero => intro i f h_m hi hf; exact absurd h_m (by omega)
    | succ r_ ih_13 =>
      intro i f h_m hi hf H locs hP hD hS ls hl
      refine lv_iload hx hb dX3_moveShapes_13 (lv_at hl 4 rfl) ?_
      refine lv_aload_n hx hb dX3_moveShapes_15 rfl (lv_at hl 0 rfl) ?_
      refine gf zS hK hP iG3 rfl 0 rfl 6 (by decide) q107 rfl rfl dX3_moveShapes_16 ?_
      refine topE (hT.1) ?_
      refine lv_icmp_ge (tgt := 59) hx hb dX3_moveShapes_19 (by decide) (fun c_19 => ?_) (fun c_19 => ?_)
      · skip
        have c_19 : np ≤ i := (nI_leI (a := np) (b := i) (by omega) (by omega)).mp c_19
        refine w_v hx hb hr hlk hS dX3_moveShapes_59 ?_
        (rw [hf, show i = np by omega] at hP; exact hP)
      · skip
        have c_19 : i < np := Nat.lt_of_not_le (fun z => c_19 ((nI_leI (a := np) (b := i) (by omega) (by omega)).mpr z))
        refine lv_aload_n hx hb dX3_moveShapes_22 rfl (lv_at hl 1 rfl) ?_
        refine lv_aload_n hx hb dX3_moveShapes_23 rfl (lv_at hl 0 rfl) ?_
        refine gf zS hK hP iG3 rfl 0 rfl 5 (by decide) q105 rfl rfl dX3_moveShapes_24 ?_
        refine lv_iload hx hb dX3_moveShapes_27 (lv_at hl 4 rfl) ?_
        refine aldN (j := i) hx hb hK hP 6 0 rfl rfl rfl (by omega) (by decide) dX3_moveShapes_29 ?_
        have hb_29 := (hT.2.2 i (by omega)).2
        refine topE ((hT.2.2 i (by omega)).1) ?_
        refine rdV (rest := []) zS hK hP (m_X2_shapesOfPair l g s t0 S hSh (nn (T 6 i)) (by omega)) cw_X2_shapesOfPair q307 [8, 9, 10, 11, 12, 13, 14, 15] rfl 8 rfl rfl ⟨Nat.le_of_ble_eq_true rfl, Nat.le_of_ble_eq_true rfl, rfl, rfl⟩ rfl rfl (Nat.le_of_ble_eq_true rfl) hl.1 dX3_moveShapes_30 ⟨Nat.zero_le _, Nat.zero_le _⟩ ?_
        have hsx := sh_lt hSh hb_29
        refine lv_iload_n hx hb dX3_moveShapes_33 rfl (lv_at hl 2 rfl) ?_
        refine lv_icmp_ne (tgt := 53) hx hb dX3_moveShapes_34 (by decide) (fun c_34 => ?_) (fun c_34 => ?_)
        · skip
          have c_34 : sh S (nn (T 6 i)) ≠ x := fun z => c_34 ((nI_eq (a := sh S (nn (T 6 i))) (b := x) (by omega) (by omega)).mpr z)
          refine lv_iinc (v := nI (i + 1)) (lv' := [(4, .int (nI (i + 1))), (0, .ref t), (1, .ref s), (2, .int (nI x)), (3, .int told)]) hx hb dX3_moveShapes_53 hl (k := 4) rfl (by first | exact nI_add _ 1 | exact nI_1 _) (by decide) rfl (fun ls hl => ?_)
          refine lv_goto (tgt := 13) hx hb dX3_moveShapes_56 (by decide) ?_
          exact ih_13 (i + 1) (f) (by omega) (by omega) (by simp only [mvN, hf, c_19, c_34, eq_self, Nat.add_zero, Nat.zero_add, decide_true, decide_false, Bool.not_true, Bool.not_false, Bool.and_true, Bool.true_and, Bool.and_false, Bool.false_and, Bool.or_true, Bool.true_or, Bool.or_false, Bool.false_or, reduceIte, Bool.false_eq_true]) _ _ hP hD hS _ (lv_sub hl [1, 2, 3, 4, 0] rfl)
        · skip
          have c_34 : sh S (nn (T 6 i)) = x := (nI_eq (a := sh S (nn (T 6 i))) (b := x) (by omega) (by omega)).mp c_34
          refine lv_aload_n hx hb dX3_moveShapes_37 rfl (lv_at hl 0 rfl) ?_
          refine gf zS hK hP iG3 rfl 0 rfl 1 (by decide) q98 rfl rfl dX3_moveShapes_38 ?_
          refine lv_aload_n hx hb dX3_moveShapes_41 rfl (lv_at hl 0 rfl) ?_
          refine gf zS hK hP iG3 rfl 0 rfl 5 (by decide) q105 rfl rfl dX3_moveShapes_42 ?_
          refine lv_iload hx hb dX3_moveShapes_45 (lv_at hl 4 rfl) ?_
          refine aldN (j := i) hx hb hK hP 6 0 rfl rfl rfl (by omega) (by decide) dX3_moveShapes_47 ?_
          have hb_47 := (hT.2.2 i (by omega)).2
          refine topE ((hT.2.2 i (by omega)).1) ?_
          refine lv_dup2_11 hx hb dX3_moveShapes_48 rfl rfl ?_
          refine aldN (j := (nn (T 6 i))) hx hb hK hP 2 0 rfl rfl rfl (by omega) (by decide) dX3_moveShapes_49 ?_
          refine lv_iload_n hx hb dX3_moveShapes_50 rfl (lv_at hl 3 rfl) ?_
          refine lv_isub hx hb dX3_moveShapes_51 ?_
          refine astN (j := (nn (T 6 i))) hx hb hK hP hD hS 2 0 rfl rfl rfl (by omega) (by decide) dX3_moveShapes_52 (fun H locs hP hD hS => ?_)
          have hP : PP g [(t, .inr (3, [.ref (t + 1), .ref (t + 2), .ref (t + 3), .ref (t + 4), .ref (t + 5), .ref (t + 6), .int (T 0 6), .ref (t + 7)])), (t + 1, .inl (g.2 0, 16, .inl (upd (T 1) x ((T 1 x) + told)))), (t + 2, .inl (g.2 0, 100, .inl (upd f (nn (T 6 i)) ((f (nn (T 6 i))) - told)))), (t + 3, .inl (g.2 0, 100, .inl (T 3))), (t + 4, .inl (g.2 0, 100, .inl (T 4))), (t + 5, .inl (g.2 0, 100, .inl (T 5))), (t + 6, .inl (g.2 0, 100, .inl (T 6))), (t + 7, .inl (g.2 0, 40, .inl (T 7))), (s, .inr (2, [.ref (s + 1), .ref (s + 2), .ref (s + 3), .ref (s + 4), .ref (s + 5), .ref (s + 6), .ref (s + 7), .int (S 0 7), .ref t0, .int (S 0 9), .int (S 0 10), .int (S 0 11)])), (s + 1, .inl (g.2 0, 10, .inl (S 1))), (s + 2, .inl (g.2 0, 10, .inl (S 2))), (s + 3, .inl (g.2 0, 10, .inl (S 3))), (s + 4, .inl (g.2 0, 16, .inl (S 4))), (s + 5, .inl (g.2 0, 4, .inl (S 5))), (s + 6, .inl (g.2 0, 40, .inl (S 6))), (s + 7, .inl (g.2 0, 40, .inl (S 7)))] H := hP
          have hD : va_D (inW (tW g t T ++ sW g s t0 S)) [(t, .inr (3, [.ref (t + 1), .ref (t + 2), .ref (t + 3), .ref (t + 4), .ref (t + 5), .ref (t + 6), .int (T 0 6), .ref (t + 7)])), (t + 1, .inl (g.2 0, 16, .inl (upd (T 1) x ((T 1 x) + told)))), (t + 2, .inl (g.2 0, 100, .inl (upd f (nn (T 6 i)) ((f (nn (T 6 i))) - told)))), (t + 3, .inl (g.2 0, 100, .inl (T 3))), (t + 4, .inl (g.2 0, 100, .inl (T 4))), (t + 5, .inl (g.2 0, 100, .inl (T 5))), (t + 6, .inl (g.2 0, 100, .inl (T 6))), (t + 7, .inl (g.2 0, 40, .inl (T 7))), (s, .inr (2, [.ref (s + 1), .ref (s + 2), .ref (s + 3), .ref (s + 4), .ref (s + 5), .ref (s + 6), .ref (s + 7), .int (S 0 7), .ref t0, .int (S 0 9), .int (S 0 10), .int (S 0 11)])), (s + 1, .inl (g.2 0, 10, .inl (S 1))), (s + 2, .inl (g.2 0, 10, .inl (S 2))), (s + 3, .inl (g.2 0, 10, .inl (S 3))), (s + 4, .inl (g.2 0, 16, .inl (S 4))), (s + 5, .inl (g.2 0, 4, .inl (S 5))), (s + 6, .inl (g.2 0, 40, .inl (S 6))), (s + 7, .inl (g.2 0, 40, .inl (S 7)))] := hD
          refine lv_iinc (v := nI (i + 1)) (lv' := [(4, .int (nI (i + 1))), (0, .ref t), (1, .ref s), (2, .int (nI x)), (3, .int told)]) hx hb dX3_moveShapes_53 hl (k := 4) rfl (by first | exact nI_add _ 1 | exact nI_1 _) (by decide) rfl (fun ls hl => ?_)
          refine lv_goto (tgt := 13) hx hb dX3_moveShapes_56 (by decide) ?_
          exact ih_13 (i + 1) (upd f (nn (T 6 i)) ((f (nn (T 6 i))) - told)) (by omega) (by omega) (by simp only [mvN, hf, c_19, c_34, eq_self, Nat.add_zero, Nat.zero_add, decide_true, decide_false, Bool.not_true, Bool.not_false, Bool.and_true, Bool.true_and, Bool.and_false, Bool.false_and, Bool.or_true, Bool.true_or, Bool.or_false, Bool.false_or, reduceIte, Bool.false_eq_true]) _ _ hP hD hS _ (lv_sub hl [1, 2, 3, 4, 0] rfl)
  exact loop_13 (np + 1) 0 (T 2) (by omega) (by omega) rfl _ _ hP hD hS _ (lv_sub hl [1, 2, 3, 4, 0] rfl)
theorem cw_X3_moveShapes : CWV yX3_moveShapes cX3_moveShapes 5 none 3 := ⟨⟨q324, q62, by decide +kernel, by decide +kernel, by decide +kernel⟩, q323, q3⟩
end
section
/-! learning -/
theorem cn_t {P : Nat → Bool} {n : Nat} (h : P n = true) : cn P (n + 1) = cn P n + 1 := by rw [cn, h]; rfl
theorem cn_f {P : Nat → Bool} {n : Nat} (h : P n = false) : cn P (n + 1) = cn P n := by rw [cn, h]; rfl
def flF (f : Nat → Int32) (v : Int32) (i : Nat) : Nat → Int32 := fun j => if j < i then v else f j
theorem flF_s (f : Nat → Int32) (v : Int32) (i : Nat) : upd (flF f v i) i v = flF f v (i + 1) := by
  funext j
  unfold flF upd
  by_cases h : j = i
  · subst h; simp
  · simp only [h, reduceIte]
    by_cases h2 : j < i
    · simp [h2, Nat.lt_succ_of_lt h2]
    · simp [h2, show ¬ j < i + 1 by omega]
set_option maxHeartbeats 4000000 in
set_option maxRecDepth 100000 in
theorem m_J7_fill_53178 (l : Launch) (g : GG) (a n : Nat) (hn : n < 2 ^ 31) (f : Nat → Int32) (v : Int32) : MW l g yJ7_fill_53178 cJ7_fill_53178 4 none ({ frames := 0, cells := 0, slots := 0, locals := 0 } : Room) [.ref a, .int v] [(a, .inl (g.2 0, n, .inl f))] [(a, .inl (g.2 0, n, .inl (fun _ => v)))] none := by
  refine MW.of rfl (Nat.le_of_ble_eq_true rfl) ?_
  intro zp ze zs zm zbelow zmeth zc ls zS hr hlk hK hP hD hS hl
  obtain ⟨hx, hb, hml, hown, hts⟩ := id zS
  have hl : lv_has ls 4 [(0, .ref a), (1, .int v)] := hl
  refine lv_iconst (v := 0) hx hb dJ7_fill_53178_0 (by decide) ?_
  refine lv_istore_n (lv' := [(2, .int 0), (0, .ref a), (1, .int v)]) hx hb dJ7_fill_53178_1 rfl hl (by decide) rfl (fun ls hl => ?_)
  refine lv_aload_n hx hb dJ7_fill_53178_2 rfl (lv_at hl 1 rfl) ?_
  refine va_alen (D := g.1) (tys := tyz g) hx hb hK hP 0 0 rfl rfl (v := nI n) rfl dJ7_fill_53178_3 ?_
  refine lv_istore_n (lv' := [(3, .int (nI n)), (2, .int 0), (0, .ref a), (1, .int v)]) hx hb dJ7_fill_53178_4 rfl hl (by decide) rfl (fun ls hl => ?_)
  have loop_5 : ∀ (r_ : Nat) (i : Nat) (f1 : Nat → Int32) (h_m : n - i < r_) (hi : i ≤ n) (hf : f1 = flF f v i), ∀ (H : Heap) (locs : List Loc), PP g [(a, .inl (g.2 0, n, .inl f1))] H → va_D (inW [(a, .inl (g.2 0, n, .inl f))]) [(a, .inl (g.2 0, n, .inl f1))] → va_S (inW [(a, .inl (g.2 0, n, .inl f))]) zs.heap H locs → ∀ ls : Array Slot, lv_has ls 4 [(0, .ref a), (1, .int v), (2, .int (nI i)), (3, .int (nI n))] → W zp l ze ({ frames := 0, cells := 0, slots := 0, locals := 0 } : Room) zs zm ([.ref a, .int v] : List Value).toArray zbelow zmeth zc H locs 0 0 (MQ zbelow (QW g [(a, .inl (g.2 0, n, .inl f))] [(a, .inl (g.2 0, n, .inl (fun _ => v)))] none) ([.ref a, .int v] : List Value).toArray zs 0 0 (inW [(a, .inl (g.2 0, n, .inl f))])) (F0 zm 5 ls []) := by
    intro r_
    induction r_ with
    | zero => intro i f1 h_m hi hf; exact absurd h_m (by omega)
    | succ r_ ih_5 =>
      intro i f1 h_m hi hf H locs hP hD hS ls hl
      refine lv_iload_n hx hb dJ7_fill_53178_5 rfl (lv_at hl 2 rfl) ?_
      refine lv_iload_n hx hb dJ7_fill_53178_6 rfl (lv_at hl 3 rfl) ?_
      refine lv_icmp_ge (tgt := 20) hx hb dJ7_fill_53178_7 (by decide) (fun c_7 => ?_) (fun c_7 => ?_)
      · skip
        have c_7 : n ≤ i := (nI_leI (a := n) (b := i) (by omega) (by omega)).mp c_7
        refine w_v hx hb hr hlk hS dJ7_fill_53178_20 ?_
        exact PP_row (q1 := 0) hP hD rfl (fun j hj => by rw [hf]; unfold flF; rw [if_pos (by omega)])
      · skip
        have c_7 : i < n := Nat.lt_of_not_le (fun z => c_7 ((nI_leI (a := n) (b := i) (by omega) (by omega)).mpr z))
        refine lv_aload_n hx hb dJ7_fill_53178_10 rfl (lv_at hl 0 rfl) ?_
        refine lv_iload_n hx hb dJ7_fill_53178_11 rfl (lv_at hl 2 rfl) ?_
        refine lv_iload_n hx hb dJ7_fill_53178_12 rfl (lv_at hl 1 rfl) ?_
        refine astN (j := i) hx hb hK hP hD hS 0 0 rfl rfl rfl (by omega) (by omega) dJ7_fill_53178_13 (fun H locs hP hD hS => ?_)
        have hP : PP g [(a, .inl (g.2 0, n, .inl (upd f1 i v)))] H := hP
        have hD : va_D (inW [(a, .inl (g.2 0, n, .inl f))]) [(a, .inl (g.2 0, n, .inl (upd f1 i v)))] := hD
        refine lv_iinc (v := nI (i + 1)) (lv' := [(2, .int (nI (i + 1))), (0, .ref a), (1, .int v), (3, .int (nI n))]) hx hb dJ7_fill_53178_14 hl (k := 2) rfl (by first | exact nI_add _ 1 | exact nI_1 _) (by decide) rfl (fun ls hl => ?_)
        refine lv_goto (tgt := 5) hx hb dJ7_fill_53178_17 (by decide) ?_
        exact ih_5 (i + 1) (upd f1 i v) (by omega) (by omega) (by rw [hf]; exact flF_s f v i) _ _ hP hD hS _ (lv_sub hl [1, 2, 0, 3] rfl)
  exact loop_5 (n + 1) 0 f (by omega) (by omega) (funext fun _ => rfl) _ _ hP hD hS _ (lv_sub hl [2, 3, 1, 0] rfl)
theorem cw_J7_fill_53178 : CWS yJ7_fill_53178 cJ7_fill_53178 4 none 2 := ⟨⟨q298, q72, by decide +kernel, by decide +kernel, by decide +kernel⟩, q297⟩
/-- a lesson: the step -/
def lnA (S T : Nat → Nat → Int32) (p np : Nat) (told : Int32) : Nat → Nat → Int32 :=
  if T 5 p = 0 then rw_ (rw_ (rw_ T 3 (upd (T 3) p (S 5 0))) 6 (upd (T 6) np (nI p))) 0 (upd (T 0) 6 (nI (np + 1)))
  else if T 4 p = told then T else rw_ T 3 (upd (T 3) p (imax 1 (T 3 p / 2)))
def lnN (T : Nat → Nat → Int32) (p np : Nat) : Nat := if T 5 p = 0 then np + 1 else np
/-- .. the pair's own part -/
def lnB (T : Nat → Nat → Int32) (p : Nat) (told k : Int32) : Nat → Nat → Int32 :=
  rw_ (rw_ (rw_ T 2 (upd (T 2) p (T 2 p + (imax (-12) (imin 12 (k + told * T 3 p)) - k)))) 4 (upd (T 4) p told)) 5 (upd (T 5) p (T 5 p + 1))
/-- .. the shapes -/
def lnC (S T : Nat → Nat → Int32) (p np : Nat) (told : Int32) : Nat → Nat → Int32 :=
  if 12 ≤ T 1 (sh S p) * told then T else if nI (cn (ptaP S T (sh S p) told) np) < S 5 1 then T else mvT S T (sh S p) np told
def lrnT (S T : Nat → Nat → Int32) (np p : Nat) (told : Int32) : Nat → Nat → Int32 :=
  if kp S T p * told < 12 then lnC S (lnB (lnA S T p np told) p told (kp S T p)) p (lnN T p np) told else T
def lrnN (S T : Nat → Nat → Int32) (np p : Nat) (told : Int32) : Nat := if kp S T p * told < 12 then lnN T p np else np
theorem upd_s (f : Nat → Int32) (k : Nat) (x : Int32) : upd f k x k = x := pk_us
theorem upd_n (f : Nat → Int32) {k j : Nat} (x : Int32) (h : j ≠ k) : upd f k x j = f j := pk_un h
theorem rw_s (T : Nat → Nat → Int32) (a : Nat) (f : Nat → Int32) : rw_ T a f a = f := by unfold rw_; rw [show Nat.beq a a = true from Nat.beq_eq.mpr rfl]; rfl
theorem rw_n (T : Nat → Nat → Int32) {a b : Nat} (f : Nat → Int32) (h : b ≠ a) : rw_ T a f b = T b := by unfold rw_; rw [show Nat.beq b a = false from by rw [← Bool.not_eq_true]; exact fun z => h (Nat.eq_of_beq_eq_true z)]; rfl
theorem LpOk_cong {T T' : Nat → Nat → Int32} {np : Nat} (h : LpOk T np) (h0 : T' 0 = T 0) (h6 : T' 6 = T 6) : LpOk T' np := by
  unfold LpOk
  rw [h0, h6]
  exact h
theorem np_of {T : Nat → Nat → Int32} {np : Nat} (h : LpOk T np) : nn (T 0 6) = np := by
  rw [h.1]
  exact nI_clamp (by have := h.2.1; omega)
theorem lnN_le (T : Nat → Nat → Int32) (p np : Nat) : lnN T p np ≤ np + 1 := by unfold lnN; split <;> omega
theorem lnA_ok {S T : Nat → Nat → Int32} {p np : Nat} {told : Int32} (h : LpOk T np) (hp : p < 100) (hn : np < 100) : LpOk (lnA S T p np told) (lnN T p np) := by
  unfold lnA lnN
  split
  · refine ⟨by rw [rw_s, upd_s], by omega, fun i hi => ?_⟩
    rw [rw_n _ _ (by decide), rw_s]
    by_cases hi2 : i = np
    · subst hi2
      rw [upd_s, show nn (nI p) = p from nI_clamp (by omega)]
      exact ⟨rfl, hp⟩
    · rw [upd_n _ _ hi2]
      exact h.2.2 i (by omega)
  · split
    · exact h
    · exact LpOk_cong h rfl rfl
theorem lnB_ok {T : Nat → Nat → Int32} {p np : Nat} {told k : Int32} (h : LpOk T np) : LpOk (lnB T p told k) np := LpOk_cong h rfl rfl
theorem lnC_ok {S T : Nat → Nat → Int32} {p np : Nat} {told : Int32} (h : LpOk T np) : LpOk (lnC S T p np told) np := by
  unfold lnC
  split
  · exact h
  · split
    · exact h
    · exact LpOk_cong h rfl rfl
theorem lrnT_ok {S T : Nat → Nat → Int32} {p np : Nat} {told : Int32} (h : LpOk T np) (hp : p < 100) (hn : np < 100) : LpOk (lrnT S T np p told) (lrnN S T np p told) := by
  unfold lrnT lrnN
  split
  · exact lnC_ok (lnB_ok (lnA_ok h hp hn))
  · exact h
theorem lrnN_le (S T : Nat → Nat → Int32) (np p : Nat) (told : Int32) : lrnN S T np p told ≤ np + 1 := by
  unfold lrnN
  split
  · exact lnN_le T p np
  · omega
set_option maxHeartbeats 4000000 in
set_option maxRecDepth 100000 in
theorem m_X3_learn (l : Launch) (g : GG) (t : Nat) (T : Nat → Nat → Int32) (s t0 : Nat) (S : Nat → Nat → Int32) (hSh : ShOk S) (np : Nat) (hT : LpOk T np) (hnp : np < 100) (p : Nat) (hp : p < 100) (told : Int32) : MW l g yX3_learn cX3_learn 8 (some .boolean) ({ frames := 2, cells := 0, slots := 0, locals := 47 } : Room) [.ref t, .ref s, .int (nI p), .int told] (tW g t T ++ sW g s t0 S) (tW g t (lrnT S T np p told) ++ sW g s t0 S) (some (.int (bI (decide (kp S T p * told < 12))))) := by
  refine MW.of rfl (Nat.le_of_ble_eq_true rfl) ?_
  intro zp ze zs zm zbelow zmeth zc ls zS hr hlk hK hP hD hS hl
  obtain ⟨hx, hb, hml, hown, hts⟩ := id zS
  have hl : lv_has ls 8 [(0, .ref t), (1, .ref s), (2, .int (nI p)), (3, .int told)] := hl
  refine lv_aload_n hx hb dX3_learn_0 rfl (lv_at hl 0 rfl) ?_
  refine lv_aload_n hx hb dX3_learn_1 rfl (lv_at hl 1 rfl) ?_
  refine lv_iload_n hx hb dX3_learn_2 rfl (lv_at hl 2 rfl) ?_
  refine rdV (rest := []) zS hK hP (m_X3_kerningOfPair l g t T s t0 S hSh p (by omega)) cw_X3_kerningOfPair q303 [0, 1, 2, 3, 4, 5, 6, 7, 8, 9, 10, 11, 12, 13, 14, 15] rfl 0 rfl rfl ⟨Nat.le_of_ble_eq_true rfl, Nat.le_of_ble_eq_true rfl, rfl, rfl⟩ rfl rfl (Nat.le_of_ble_eq_true rfl) hl.1 dX3_learn_3 ⟨Nat.zero_le _, Nat.zero_le _⟩ ?_
  refine lv_istore (lv' := [(4, .int (kp S T p)), (0, .ref t), (1, .ref s), (2, .int (nI p)), (3, .int told)]) hx hb dX3_learn_6 hl (by decide) rfl (fun ls hl => ?_)
  refine lv_iload hx hb dX3_learn_8 (lv_at hl 0 rfl) ?_
  refine lv_iload_n hx hb dX3_learn_10 rfl (lv_at hl 4 rfl) ?_
  refine lv_imul hx hb dX3_learn_11 ?_
  refine lv_bipush (v := 12) hx hb dX3_learn_12 (by decide) ?_
  refine lv_icmp_lt (tgt := 19) hx hb dX3_learn_14 (by decide) (fun c_14 => ?_) (fun c_14 => ?_)
  · skip
    have loop_91 : ∀ (T1 : Nat → Nat → Int32) (np1 : Nat) (hT1 : T1 = lnA S T p np told) (hn1 : np1 = lnN T p np), ∀ (H : Heap) (locs : List Loc), PP g [(t, .inr (3, [.ref (t + 1), .ref (t + 2), .ref (t + 3), .ref (t + 4), .ref (t + 5), .ref (t + 6), .int (T1 0 6), .ref (t + 7)])), (t + 1, .inl (g.2 0, 16, .inl (T1 1))), (t + 2, .inl (g.2 0, 100, .inl (T1 2))), (t + 3, .inl (g.2 0, 100, .inl (T1 3))), (t + 4, .inl (g.2 0, 100, .inl (T1 4))), (t + 5, .inl (g.2 0, 100, .inl (T1 5))), (t + 6, .inl (g.2 0, 100, .inl (T1 6))), (t + 7, .inl (g.2 0, 40, .inl (T1 7))), (s, .inr (2, [.ref (s + 1), .ref (s + 2), .ref (s + 3), .ref (s + 4), .ref (s + 5), .ref (s + 6), .ref (s + 7), .int (S 0 7), .ref t0, .int (S 0 9), .int (S 0 10), .int (S 0 11)])), (s + 1, .inl (g.2 0, 10, .inl (S 1))), (s + 2, .inl (g.2 0, 10, .inl (S 2))), (s + 3, .inl (g.2 0, 10, .inl (S 3))), (s + 4, .inl (g.2 0, 16, .inl (S 4))), (s + 5, .inl (g.2 0, 4, .inl (S 5))), (s + 6, .inl (g.2 0, 40, .inl (S 6))), (s + 7, .inl (g.2 0, 40, .inl (S 7)))] H → va_D (inW (tW g t T ++ sW g s t0 S)) [(t, .inr (3, [.ref (t + 1), .ref (t + 2), .ref (t + 3), .ref (t + 4), .ref (t + 5), .ref (t + 6), .int (T1 0 6), .ref (t + 7)])), (t + 1, .inl (g.2 0, 16, .inl (T1 1))), (t + 2, .inl (g.2 0, 100, .inl (T1 2))), (t + 3, .inl (g.2 0, 100, .inl (T1 3))), (t + 4, .inl (g.2 0, 100, .inl (T1 4))), (t + 5, .inl (g.2 0, 100, .inl (T1 5))), (t + 6, .inl (g.2 0, 100, .inl (T1 6))), (t + 7, .inl (g.2 0, 40, .inl (T1 7))), (s, .inr (2, [.ref (s + 1), .ref (s + 2), .ref (s + 3), .ref (s + 4), .ref (s + 5), .ref (s + 6), .ref (s + 7), .int (S 0 7), .ref t0, .int (S 0 9), .int (S 0 10), .int (S 0 11)])), (s + 1, .inl (g.2 0, 10, .inl (S 1))), (s + 2, .inl (g.2 0, 10, .inl (S 2))), (s + 3, .inl (g.2 0, 10, .inl (S 3))), (s + 4, .inl (g.2 0, 16, .inl (S 4))), (s + 5, .inl (g.2 0, 4, .inl (S 5))), (s + 6, .inl (g.2 0, 40, .inl (S 6))), (s + 7, .inl (g.2 0, 40, .inl (S 7)))] → va_S (inW (tW g t T ++ sW g s t0 S)) zs.heap H locs → ∀ ls : Array Slot, lv_has ls 8 [(0, .ref t), (1, .ref s), (2, .int (nI p)), (3, .int told), (4, .int (kp S T p))] → W zp l ze ({ frames := 2, cells := 0, slots := 0, locals := 47 } : Room) zs zm ([.ref t, .ref s, .int (nI p), .int told] : List Value).toArray zbelow zmeth zc H locs 0 0 (MQ zbelow (QW g (tW g t T ++ sW g s t0 S) (tW g t (lrnT S T np p told) ++ sW g s t0 S) (some (.int (bI (decide (kp S T p * told < 12)))))) ([.ref t, .ref s, .int (nI p), .int told] : List Value).toArray zs 0 0 (inW (tW g t T ++ sW g s t0 S))) (F0 zm 91 ls []) := by
      intro T1 np1 hT1 hn1 H locs hP hD hS ls hl
      have hL1 : LpOk T1 np1 := by rw [hT1, hn1]; exact lnA_ok hT hp hnp
      have hnp1 := hL1.2.1
      refine lv_aload_n hx hb dX3_learn_91 rfl (lv_at hl 0 rfl) ?_
      refine gf zS hK hP iG3 rfl 0 rfl 3 (by decide) q102 rfl rfl dX3_learn_92 ?_
      refine lv_iload_n hx hb dX3_learn_95 rfl (lv_at hl 2 rfl) ?_
      refine lv_iload_n hx hb dX3_learn_96 rfl (lv_at hl 3 rfl) ?_
      refine astN (j := p) hx hb hK hP hD hS 4 0 rfl rfl rfl (by omega) (by decide) dX3_learn_97 (fun H locs hP hD hS => ?_)
      have hP : PP g [(t, .inr (3, [.ref (t + 1), .ref (t + 2), .ref (t + 3), .ref (t + 4), .ref (t + 5), .ref (t + 6), .int (T1 0 6), .ref (t + 7)])), (t + 1, .inl (g.2 0, 16, .inl (T1 1))), (t + 2, .inl (g.2 0, 100, .inl (T1 2))), (t + 3, .inl (g.2 0, 100, .inl (T1 3))), (t + 4, .inl (g.2 0, 100, .inl (upd (T1 4) p told))), (t + 5, .inl (g.2 0, 100, .inl (T1 5))), (t + 6, .inl (g.2 0, 100, .inl (T1 6))), (t + 7, .inl (g.2 0, 40, .inl (T1 7))), (s, .inr (2, [.ref (s + 1), .ref (s + 2), .ref (s + 3), .ref (s + 4), .ref (s + 5), .ref (s + 6), .ref (s + 7), .int (S 0 7), .ref t0, .int (S 0 9), .int (S 0 10), .int (S 0 11)])), (s + 1, .inl (g.2 0, 10, .inl (S 1))), (s + 2, .inl (g.2 0, 10, .inl (S 2))), (s + 3, .inl (g.2 0, 10, .inl (S 3))), (s + 4, .inl (g.2 0, 16, .inl (S 4))), (s + 5, .inl (g.2 0, 4, .inl (S 5))), (s + 6, .inl (g.2 0, 40, .inl (S 6))), (s + 7, .inl (g.2 0, 40, .inl (S 7)))] H := hP
      have hD : va_D (inW (tW g t T ++ sW g s t0 S)) [(t, .inr (3, [.ref (t + 1), .ref (t + 2), .ref (t + 3), .ref (t + 4), .ref (t + 5), .ref (t + 6), .int (T1 0 6), .ref (t + 7)])), (t + 1, .inl (g.2 0, 16, .inl (T1 1))), (t + 2, .inl (g.2 0, 100, .inl (T1 2))), (t + 3, .inl (g.2 0, 100, .inl (T1 3))), (t + 4, .inl (g.2 0, 100, .inl (upd (T1 4) p told))), (t + 5, .inl (g.2 0, 100, .inl (T1 5))), (t + 6, .inl (g.2 0, 100, .inl (T1 6))), (t + 7, .inl (g.2 0, 40, .inl (T1 7))), (s, .inr (2, [.ref (s + 1), .ref (s + 2), .ref (s + 3), .ref (s + 4), .ref (s + 5), .ref (s + 6), .ref (s + 7), .int (S 0 7), .ref t0, .int (S 0 9), .int (S 0 10), .int (S 0 11)])), (s + 1, .inl (g.2 0, 10, .inl (S 1))), (s + 2, .inl (g.2 0, 10, .inl (S 2))), (s + 3, .inl (g.2 0, 10, .inl (S 3))), (s + 4, .inl (g.2 0, 16, .inl (S 4))), (s + 5, .inl (g.2 0, 4, .inl (S 5))), (s + 6, .inl (g.2 0, 40, .inl (S 6))), (s + 7, .inl (g.2 0, 40, .inl (S 7)))] := hD
      refine lv_aload_n hx hb dX3_learn_98 rfl (lv_at hl 0 rfl) ?_
      refine gf zS hK hP iG3 rfl 0 rfl 4 (by decide) q103 rfl rfl dX3_learn_99 ?_
      refine lv_iload_n hx hb dX3_learn_102 rfl (lv_at hl 2 rfl) ?_
      refine lv_dup2_11 hx hb dX3_learn_103 rfl rfl ?_
      refine aldN (j := p) hx hb hK hP 5 0 rfl rfl rfl (by omega) (by decide) dX3_learn_104 ?_
      refine lv_iconst (v := 1) hx hb dX3_learn_105 (by decide) ?_
      refine lv_iadd hx hb dX3_learn_106 ?_
      refine astN (j := p) hx hb hK hP hD hS 5 0 rfl rfl rfl (by omega) (by decide) dX3_learn_107 (fun H locs hP hD hS => ?_)
      have hP : PP g [(t, .inr (3, [.ref (t + 1), .ref (t + 2), .ref (t + 3), .ref (t + 4), .ref (t + 5), .ref (t + 6), .int (T1 0 6), .ref (t + 7)])), (t + 1, .inl (g.2 0, 16, .inl (T1 1))), (t + 2, .inl (g.2 0, 100, .inl (T1 2))), (t + 3, .inl (g.2 0, 100, .inl (T1 3))), (t + 4, .inl (g.2 0, 100, .inl (upd (T1 4) p told))), (t + 5, .inl (g.2 0, 100, .inl (upd (T1 5) p ((T1 5 p) + 1)))), (t + 6, .inl (g.2 0, 100, .inl (T1 6))), (t + 7, .inl (g.2 0, 40, .inl (T1 7))), (s, .inr (2, [.ref (s + 1), .ref (s + 2), .ref (s + 3), .ref (s + 4), .ref (s + 5), .ref (s + 6), .ref (s + 7), .int (S 0 7), .ref t0, .int (S 0 9), .int (S 0 10), .int (S 0 11)])), (s + 1, .inl (g.2 0, 10, .inl (S 1))), (s + 2, .inl (g.2 0, 10, .inl (S 2))), (s + 3, .inl (g.2 0, 10, .inl (S 3))), (s + 4, .inl (g.2 0, 16, .inl (S 4))), (s + 5, .inl (g.2 0, 4, .inl (S 5))), (s + 6, .inl (g.2 0, 40, .inl (S 6))), (s + 7, .inl (g.2 0, 40, .inl (S 7)))] H := hP
      have hD : va_D (inW (tW g t T ++ sW g s t0 S)) [(t, .inr (3, [.ref (t + 1), .ref (t + 2), .ref (t + 3), .ref (t + 4), .ref (t + 5), .ref (t + 6), .int (T1 0 6), .ref (t + 7)])), (t + 1, .inl (g.2 0, 16, .inl (T1 1))), (t + 2, .inl (g.2 0, 100, .inl (T1 2))), (t + 3, .inl (g.2 0, 100, .inl (T1 3))), (t + 4, .inl (g.2 0, 100, .inl (upd (T1 4) p told))), (t + 5, .inl (g.2 0, 100, .inl (upd (T1 5) p ((T1 5 p) + 1)))), (t + 6, .inl (g.2 0, 100, .inl (T1 6))), (t + 7, .inl (g.2 0, 40, .inl (T1 7))), (s, .inr (2, [.ref (s + 1), .ref (s + 2), .ref (s + 3), .ref (s + 4), .ref (s + 5), .ref (s + 6), .ref (s + 7), .int (S 0 7), .ref t0, .int (S 0 9), .int (S 0 10), .int (S 0 11)])), (s + 1, .inl (g.2 0, 10, .inl (S 1))), (s + 2, .inl (g.2 0, 10, .inl (S 2))), (s + 3, .inl (g.2 0, 10, .inl (S 3))), (s + 4, .inl (g.2 0, 16, .inl (S 4))), (s + 5, .inl (g.2 0, 4, .inl (S 5))), (s + 6, .inl (g.2 0, 40, .inl (S 6))), (s + 7, .inl (g.2 0, 40, .inl (S 7)))] := hD
      refine lv_iload hx hb dX3_learn_108 (lv_at hl 4 rfl) ?_
      refine lv_iload_n hx hb dX3_learn_110 rfl (lv_at hl 3 rfl) ?_
      refine lv_aload_n hx hb dX3_learn_111 rfl (lv_at hl 0 rfl) ?_
      refine gf zS hK hP iG3 rfl 0 rfl 2 (by decide) q100 rfl rfl dX3_learn_112 ?_
      refine lv_iload_n hx hb dX3_learn_115 rfl (lv_at hl 2 rfl) ?_
      refine aldN (j := p) hx hb hK hP 3 0 rfl rfl rfl (by omega) (by decide) dX3_learn_116 ?_
      refine lv_imul hx hb dX3_learn_117 ?_
      refine lv_iadd hx hb dX3_learn_118 ?_
      refine lv_istore (lv' := [(5, .int ((kp S T p) + (told * (T1 3 p)))), (0, .ref t), (1, .ref s), (2, .int (nI p)), (3, .int told), (4, .int (kp S T p))]) hx hb dX3_learn_119 hl (by decide) rfl (fun ls hl => ?_)
      refine lv_bipush (v := (-12)) hx hb dX3_learn_121 (by decide) ?_
      refine lv_bipush (v := 12) hx hb dX3_learn_123 (by decide) ?_
      refine lv_iload hx hb dX3_learn_125 (lv_at hl 0 rfl) ?_
      refine mnn zS q314 ⟨Nat.le_of_ble_eq_true rfl, Nat.le_of_ble_eq_true rfl⟩ ⟨Nat.zero_le _, Nat.zero_le _⟩ hl.1 dX3_learn_127 ?_
      refine mxx zS q311 ⟨Nat.le_of_ble_eq_true rfl, Nat.le_of_ble_eq_true rfl⟩ ⟨Nat.zero_le _, Nat.zero_le _⟩ hl.1 dX3_learn_130 ?_
      refine lv_istore (lv' := [(5, .int (imax (-12) (imin 12 ((kp S T p) + (told * (T1 3 p)))))), (0, .ref t), (1, .ref s), (2, .int (nI p)), (3, .int told), (4, .int (kp S T p))]) hx hb dX3_learn_133 hl (by decide) rfl (fun ls hl => ?_)
      refine lv_aload_n hx hb dX3_learn_135 rfl (lv_at hl 1 rfl) ?_
      refine gf zS hK hP iG3 rfl 0 rfl 1 (by decide) q98 rfl rfl dX3_learn_136 ?_
      refine lv_iload_n hx hb dX3_learn_139 rfl (lv_at hl 3 rfl) ?_
      refine lv_dup2_11 hx hb dX3_learn_140 rfl rfl ?_
      refine aldN (j := p) hx hb hK hP 2 0 rfl rfl rfl (by omega) (by decide) dX3_learn_141 ?_
      refine lv_iload hx hb dX3_learn_142 (lv_at hl 0 rfl) ?_
      refine lv_iload hx hb dX3_learn_144 (lv_at hl 5 rfl) ?_
      refine lv_isub hx hb dX3_learn_146 ?_
      refine lv_iadd hx hb dX3_learn_147 ?_
      refine astN (j := p) hx hb hK hP hD hS 2 0 rfl rfl rfl (by omega) (by decide) dX3_learn_148 (fun H locs hP hD hS => ?_)
      have hP : PP g [(t, .inr (3, [.ref (t + 1), .ref (t + 2), .ref (t + 3), .ref (t + 4), .ref (t + 5), .ref (t + 6), .int (T1 0 6), .ref (t + 7)])), (t + 1, .inl (g.2 0, 16, .inl (T1 1))), (t + 2, .inl (g.2 0, 100, .inl (upd (T1 2) p ((T1 2 p) + ((imax (-12) (imin 12 ((kp S T p) + (told * (T1 3 p))))) - (kp S T p)))))), (t + 3, .inl (g.2 0, 100, .inl (T1 3))), (t + 4, .inl (g.2 0, 100, .inl (upd (T1 4) p told))), (t + 5, .inl (g.2 0, 100, .inl (upd (T1 5) p ((T1 5 p) + 1)))), (t + 6, .inl (g.2 0, 100, .inl (T1 6))), (t + 7, .inl (g.2 0, 40, .inl (T1 7))), (s, .inr (2, [.ref (s + 1), .ref (s + 2), .ref (s + 3), .ref (s + 4), .ref (s + 5), .ref (s + 6), .ref (s + 7), .int (S 0 7), .ref t0, .int (S 0 9), .int (S 0 10), .int (S 0 11)])), (s + 1, .inl (g.2 0, 10, .inl (S 1))), (s + 2, .inl (g.2 0, 10, .inl (S 2))), (s + 3, .inl (g.2 0, 10, .inl (S 3))), (s + 4, .inl (g.2 0, 16, .inl (S 4))), (s + 5, .inl (g.2 0, 4, .inl (S 5))), (s + 6, .inl (g.2 0, 40, .inl (S 6))), (s + 7, .inl (g.2 0, 40, .inl (S 7)))] H := hP
      have hD : va_D (inW (tW g t T ++ sW g s t0 S)) [(t, .inr (3, [.ref (t + 1), .ref (t + 2), .ref (t + 3), .ref (t + 4), .ref (t + 5), .ref (t + 6), .int (T1 0 6), .ref (t + 7)])), (t + 1, .inl (g.2 0, 16, .inl (T1 1))), (t + 2, .inl (g.2 0, 100, .inl (upd (T1 2) p ((T1 2 p) + ((imax (-12) (imin 12 ((kp S T p) + (told * (T1 3 p))))) - (kp S T p)))))), (t + 3, .inl (g.2 0, 100, .inl (T1 3))), (t + 4, .inl (g.2 0, 100, .inl (upd (T1 4) p told))), (t + 5, .inl (g.2 0, 100, .inl (upd (T1 5) p ((T1 5 p) + 1)))), (t + 6, .inl (g.2 0, 100, .inl (T1 6))), (t + 7, .inl (g.2 0, 40, .inl (T1 7))), (s, .inr (2, [.ref (s + 1), .ref (s + 2), .ref (s + 3), .ref (s + 4), .ref (s + 5), .ref (s + 6), .ref (s + 7), .int (S 0 7), .ref t0, .int (S 0 9), .int (S 0 10), .int (S 0 11)])), (s + 1, .inl (g.2 0, 10, .inl (S 1))), (s + 2, .inl (g.2 0, 10, .inl (S 2))), (s + 3, .inl (g.2 0, 10, .inl (S 3))), (s + 4, .inl (g.2 0, 16, .inl (S 4))), (s + 5, .inl (g.2 0, 4, .inl (S 5))), (s + 6, .inl (g.2 0, 40, .inl (S 6))), (s + 7, .inl (g.2 0, 40, .inl (S 7)))] := hD
      have loop_149 : ∀ (T2 : Nat → Nat → Int32) (hT2 : T2 = lnB T1 p told (kp S T p)), ∀ (H : Heap) (locs : List Loc), PP g [(t, .inr (3, [.ref (t + 1), .ref (t + 2), .ref (t + 3), .ref (t + 4), .ref (t + 5), .ref (t + 6), .int (T2 0 6), .ref (t + 7)])), (t + 1, .inl (g.2 0, 16, .inl (T2 1))), (t + 2, .inl (g.2 0, 100, .inl (T2 2))), (t + 3, .inl (g.2 0, 100, .inl (T2 3))), (t + 4, .inl (g.2 0, 100, .inl (T2 4))), (t + 5, .inl (g.2 0, 100, .inl (T2 5))), (t + 6, .inl (g.2 0, 100, .inl (T2 6))), (t + 7, .inl (g.2 0, 40, .inl (T2 7))), (s, .inr (2, [.ref (s + 1), .ref (s + 2), .ref (s + 3), .ref (s + 4), .ref (s + 5), .ref (s + 6), .ref (s + 7), .int (S 0 7), .ref t0, .int (S 0 9), .int (S 0 10), .int (S 0 11)])), (s + 1, .inl (g.2 0, 10, .inl (S 1))), (s + 2, .inl (g.2 0, 10, .inl (S 2))), (s + 3, .inl (g.2 0, 10, .inl (S 3))), (s + 4, .inl (g.2 0, 16, .inl (S 4))), (s + 5, .inl (g.2 0, 4, .inl (S 5))), (s + 6, .inl (g.2 0, 40, .inl (S 6))), (s + 7, .inl (g.2 0, 40, .inl (S 7)))] H → va_D (inW (tW g t T ++ sW g s t0 S)) [(t, .inr (3, [.ref (t + 1), .ref (t + 2), .ref (t + 3), .ref (t + 4), .ref (t + 5), .ref (t + 6), .int (T2 0 6), .ref (t + 7)])), (t + 1, .inl (g.2 0, 16, .inl (T2 1))), (t + 2, .inl (g.2 0, 100, .inl (T2 2))), (t + 3, .inl (g.2 0, 100, .inl (T2 3))), (t + 4, .inl (g.2 0, 100, .inl (T2 4))), (t + 5, .inl (g.2 0, 100, .inl (T2 5))), (t + 6, .inl (g.2 0, 100, .inl (T2 6))), (t + 7, .inl (g.2 0, 40, .inl (T2 7))), (s, .inr (2, [.ref (s + 1), .ref (s + 2), .ref (s + 3), .ref (s + 4), .ref (s + 5), .ref (s + 6), .ref (s + 7), .int (S 0 7), .ref t0, .int (S 0 9), .int (S 0 10), .int (S 0 11)])), (s + 1, .inl (g.2 0, 10, .inl (S 1))), (s + 2, .inl (g.2 0, 10, .inl (S 2))), (s + 3, .inl (g.2 0, 10, .inl (S 3))), (s + 4, .inl (g.2 0, 16, .inl (S 4))), (s + 5, .inl (g.2 0, 4, .inl (S 5))), (s + 6, .inl (g.2 0, 40, .inl (S 6))), (s + 7, .inl (g.2 0, 40, .inl (S 7)))] → va_S (inW (tW g t T ++ sW g s t0 S)) zs.heap H locs → ∀ ls : Array Slot, lv_has ls 8 [(0, .ref t), (1, .ref s), (2, .int (nI p)), (3, .int told), (4, .int (kp S T p))] → W zp l ze ({ frames := 2, cells := 0, slots := 0, locals := 47 } : Room) zs zm ([.ref t, .ref s, .int (nI p), .int told] : List Value).toArray zbelow zmeth zc H locs 0 0 (MQ zbelow (QW g (tW g t T ++ sW g s t0 S) (tW g t (lrnT S T np p told) ++ sW g s t0 S) (some (.int (bI (decide (kp S T p * told < 12)))))) ([.ref t, .ref s, .int (nI p), .int told] : List Value).toArray zs 0 0 (inW (tW g t T ++ sW g s t0 S))) (F0 zm 149 ls []) := by
        intro T2 hT2 H locs hP hD hS ls hl
        have hL2 : LpOk T2 np1 := by rw [hT2]; exact lnB_ok hL1
        have hx16 := sh_lt hSh hp
        refine lv_aload_n hx hb dX3_learn_149 rfl (lv_at hl 1 rfl) ?_
        refine lv_iload_n hx hb dX3_learn_150 rfl (lv_at hl 2 rfl) ?_
        refine rdV (rest := []) zS hK hP (m_X2_shapesOfPair l g s t0 S hSh p (by omega)) cw_X2_shapesOfPair q307 [8, 9, 10, 11, 12, 13, 14, 15] rfl 8 rfl rfl ⟨Nat.le_of_ble_eq_true rfl, Nat.le_of_ble_eq_true rfl, rfl, rfl⟩ rfl rfl (Nat.le_of_ble_eq_true rfl) hl.1 dX3_learn_151 ⟨Nat.zero_le _, Nat.zero_le _⟩ ?_
        refine lv_istore (lv' := [(6, .int (nI (sh S p))), (0, .ref t), (1, .ref s), (2, .int (nI p)), (3, .int told), (4, .int (kp S T p))]) hx hb dX3_learn_154 hl (by decide) rfl (fun ls hl => ?_)
        refine lv_aload_n hx hb dX3_learn_156 rfl (lv_at hl 1 rfl) ?_
        refine gf zS hK hP iG3 rfl 0 rfl 0 (by decide) q95 rfl rfl dX3_learn_157 ?_
        refine lv_iload hx hb dX3_learn_160 (lv_at hl 0 rfl) ?_
        refine aldN (j := (sh S p)) hx hb hK hP 1 0 rfl rfl rfl (by omega) (by decide) dX3_learn_162 ?_
        refine lv_iload_n hx hb dX3_learn_163 rfl (lv_at hl 4 rfl) ?_
        refine lv_imul hx hb dX3_learn_164 ?_
        refine lv_bipush (v := 12) hx hb dX3_learn_165 (by decide) ?_
        refine lv_icmp_ge (tgt := 174) hx hb dX3_learn_167 (by decide) (fun c_167 => ?_) (fun c_167 => ?_)
        · skip
          refine lv_iconst (v := 0) hx hb dX3_learn_174 (by decide) ?_
          refine lv_istore (lv' := [(7, .int 0), (6, .int (nI (sh S p))), (0, .ref t), (1, .ref s), (2, .int (nI p)), (3, .int told), (4, .int (kp S T p))]) hx hb dX3_learn_175 hl (by decide) rfl (fun ls hl => ?_)
          refine lv_iload hx hb dX3_learn_177 (lv_at hl 0 rfl) ?_
          refine lv_if_eq (tgt := 207) hx hb dX3_learn_179 (by decide) (fun c_179 => ?_) (fun c_179 => ?_)
          · skip
            refine lv_iconst (v := 1) hx hb dX3_learn_207 (by decide) ?_
            refine w_z hx hb hr hlk hS dX3_learn_208 (by decide) ?_ ?_
            · rw [show lrnT S T np p told = T2 from by simp only [lrnT, lnC, ← hn1, ← hT1, ← hT2, c_14, c_167, c_179, eq_self, Nat.add_zero, Nat.zero_add, decide_true, decide_false, Bool.not_true, Bool.not_false, Bool.and_true, Bool.true_and, Bool.and_false, Bool.false_and, Bool.or_true, Bool.true_or, Bool.or_false, Bool.false_or, reduceIte, Bool.false_eq_true]]; exact hP
            · simp only [bI, c_14, c_167, c_179, eq_self, Nat.add_zero, Nat.zero_add, decide_true, decide_false, Bool.not_true, Bool.not_false, Bool.and_true, Bool.true_and, Bool.and_false, Bool.false_and, Bool.or_true, Bool.true_or, Bool.or_false, Bool.false_or, reduceIte, Bool.false_eq_true]
          · skip
            exact absurd c_179 (by decide)
        · skip
          refine lv_iconst (v := 1) hx hb dX3_learn_170 (by decide) ?_
          refine lv_goto (tgt := 175) hx hb dX3_learn_171 (by decide) ?_
          refine lv_istore (lv' := [(7, .int 1), (6, .int (nI (sh S p))), (0, .ref t), (1, .ref s), (2, .int (nI p)), (3, .int told), (4, .int (kp S T p))]) hx hb dX3_learn_175 hl (by decide) rfl (fun ls hl => ?_)
          refine lv_iload hx hb dX3_learn_177 (lv_at hl 0 rfl) ?_
          refine lv_if_eq (tgt := 207) hx hb dX3_learn_179 (by decide) (fun c_179 => ?_) (fun c_179 => ?_)
          · skip
            exact absurd c_179 (by decide)
          · skip
            refine lv_aload_n hx hb dX3_learn_182 rfl (lv_at hl 2 rfl) ?_
            refine lv_aload_n hx hb dX3_learn_183 rfl (lv_at hl 3 rfl) ?_
            refine lv_iload hx hb dX3_learn_184 (lv_at hl 1 rfl) ?_
            refine lv_iload_n hx hb dX3_learn_186 rfl (lv_at hl 5 rfl) ?_
            refine rdV (rest := []) zS hK hP (m_X3_pairsThatAgree l g t T2 s t0 S hSh np1 hL2 (sh S p) (by omega) told) cw_X3_pairsThatAgree q317 [0, 1, 2, 3, 4, 5, 6, 7, 8, 9, 10, 11, 12, 13, 14, 15] rfl 0 rfl rfl ⟨Nat.le_of_ble_eq_true rfl, Nat.le_of_ble_eq_true rfl, rfl, rfl⟩ rfl rfl (Nat.le_of_ble_eq_true rfl) hl.1 dX3_learn_187 ⟨Nat.zero_le _, Nat.zero_le _⟩ ?_
            refine lv_aload_n hx hb dX3_learn_190 rfl (lv_at hl 3 rfl) ?_
            refine gf zS hK hP iG2 rfl 8 rfl 4 (by decide) q146 rfl rfl dX3_learn_191 ?_
            refine lv_iconst (v := 1) hx hb dX3_learn_194 (by decide) ?_
            refine aldN (j := 1) hx hb hK hP 13 0 rfl rfl rfl (by omega) (by decide) dX3_learn_195 ?_
            refine lv_icmp_lt (tgt := 207) hx hb dX3_learn_196 (by decide) (fun c_196 => ?_) (fun c_196 => ?_)
            · skip
              refine lv_iconst (v := 1) hx hb dX3_learn_207 (by decide) ?_
              refine w_z hx hb hr hlk hS dX3_learn_208 (by decide) ?_ ?_
              · rw [show lrnT S T np p told = T2 from by simp only [lrnT, lnC, ← hn1, ← hT1, ← hT2, c_14, c_167, c_179, c_196, eq_self, Nat.add_zero, Nat.zero_add, decide_true, decide_false, Bool.not_true, Bool.not_false, Bool.and_true, Bool.true_and, Bool.and_false, Bool.false_and, Bool.or_true, Bool.true_or, Bool.or_false, Bool.false_or, reduceIte, Bool.false_eq_true]]; exact hP
              · simp only [bI, c_14, c_167, c_179, c_196, eq_self, Nat.add_zero, Nat.zero_add, decide_true, decide_false, Bool.not_true, Bool.not_false, Bool.and_true, Bool.true_and, Bool.and_false, Bool.false_and, Bool.or_true, Bool.true_or, Bool.or_false, Bool.false_or, reduceIte, Bool.false_eq_true]
            · skip
              refine lv_aload_n hx hb dX3_learn_199 rfl (lv_at hl 2 rfl) ?_
              refine lv_aload_n hx hb dX3_learn_200 rfl (lv_at hl 3 rfl) ?_
              refine lv_iload hx hb dX3_learn_201 (lv_at hl 1 rfl) ?_
              refine lv_iload_n hx hb dX3_learn_203 rfl (lv_at hl 5 rfl) ?_
              refine wrV (rest := []) zS hK hP hD hS (m_X3_moveShapes l g t T2 s t0 S hSh np1 hL2 (sh S p) (by omega) told) cw_X3_moveShapes q321 [0, 1, 2, 3, 4, 5, 6, 7, 8, 9, 10, 11, 12, 13, 14, 15] rfl (by decide) rfl 0 rfl rfl ⟨Nat.le_of_ble_eq_true rfl, Nat.le_of_ble_eq_true rfl, rfl, rfl⟩ rfl rfl (Nat.le_of_ble_eq_true rfl) hl.1 dX3_learn_204 ⟨Nat.zero_le _, Nat.zero_le _⟩ (fun H locs hP hD hS => ?_)
              have hP : PP g [(t, .inr (3, [.ref (t + 1), .ref (t + 2), .ref (t + 3), .ref (t + 4), .ref (t + 5), .ref (t + 6), .int ((mvT S T2 (sh S p) np1 told) 0 6), .ref (t + 7)])), (t + 1, .inl (g.2 0, 16, .inl ((mvT S T2 (sh S p) np1 told) 1))), (t + 2, .inl (g.2 0, 100, .inl ((mvT S T2 (sh S p) np1 told) 2))), (t + 3, .inl (g.2 0, 100, .inl ((mvT S T2 (sh S p) np1 told) 3))), (t + 4, .inl (g.2 0, 100, .inl ((mvT S T2 (sh S p) np1 told) 4))), (t + 5, .inl (g.2 0, 100, .inl ((mvT S T2 (sh S p) np1 told) 5))), (t + 6, .inl (g.2 0, 100, .inl ((mvT S T2 (sh S p) np1 told) 6))), (t + 7, .inl (g.2 0, 40, .inl ((mvT S T2 (sh S p) np1 told) 7))), (s, .inr (2, [.ref (s + 1), .ref (s + 2), .ref (s + 3), .ref (s + 4), .ref (s + 5), .ref (s + 6), .ref (s + 7), .int (S 0 7), .ref t0, .int (S 0 9), .int (S 0 10), .int (S 0 11)])), (s + 1, .inl (g.2 0, 10, .inl (S 1))), (s + 2, .inl (g.2 0, 10, .inl (S 2))), (s + 3, .inl (g.2 0, 10, .inl (S 3))), (s + 4, .inl (g.2 0, 16, .inl (S 4))), (s + 5, .inl (g.2 0, 4, .inl (S 5))), (s + 6, .inl (g.2 0, 40, .inl (S 6))), (s + 7, .inl (g.2 0, 40, .inl (S 7)))] H := hP
              have hD : va_D (inW (tW g t T ++ sW g s t0 S)) [(t, .inr (3, [.ref (t + 1), .ref (t + 2), .ref (t + 3), .ref (t + 4), .ref (t + 5), .ref (t + 6), .int ((mvT S T2 (sh S p) np1 told) 0 6), .ref (t + 7)])), (t + 1, .inl (g.2 0, 16, .inl ((mvT S T2 (sh S p) np1 told) 1))), (t + 2, .inl (g.2 0, 100, .inl ((mvT S T2 (sh S p) np1 told) 2))), (t + 3, .inl (g.2 0, 100, .inl ((mvT S T2 (sh S p) np1 told) 3))), (t + 4, .inl (g.2 0, 100, .inl ((mvT S T2 (sh S p) np1 told) 4))), (t + 5, .inl (g.2 0, 100, .inl ((mvT S T2 (sh S p) np1 told) 5))), (t + 6, .inl (g.2 0, 100, .inl ((mvT S T2 (sh S p) np1 told) 6))), (t + 7, .inl (g.2 0, 40, .inl ((mvT S T2 (sh S p) np1 told) 7))), (s, .inr (2, [.ref (s + 1), .ref (s + 2), .ref (s + 3), .ref (s + 4), .ref (s + 5), .ref (s + 6), .ref (s + 7), .int (S 0 7), .ref t0, .int (S 0 9), .int (S 0 10), .int (S 0 11)])), (s + 1, .inl (g.2 0, 10, .inl (S 1))), (s + 2, .inl (g.2 0, 10, .inl (S 2))), (s + 3, .inl (g.2 0, 10, .inl (S 3))), (s + 4, .inl (g.2 0, 16, .inl (S 4))), (s + 5, .inl (g.2 0, 4, .inl (S 5))), (s + 6, .inl (g.2 0, 40, .inl (S 6))), (s + 7, .inl (g.2 0, 40, .inl (S 7)))] := hD
              refine lv_iconst (v := 1) hx hb dX3_learn_207 (by decide) ?_
              refine w_z hx hb hr hlk hS dX3_learn_208 (by decide) ?_ ?_
              · rw [show lrnT S T np p told = (mvT S T2 (sh S p) np1 told) from by simp only [lrnT, lnC, ← hn1, ← hT1, ← hT2, c_14, c_167, c_179, c_196, eq_self, Nat.add_zero, Nat.zero_add, decide_true, decide_false, Bool.not_true, Bool.not_false, Bool.and_true, Bool.true_and, Bool.and_false, Bool.false_and, Bool.or_true, Bool.true_or, Bool.or_false, Bool.false_or, reduceIte, Bool.false_eq_true]]; exact hP
              · simp only [bI, c_14, c_167, c_179, c_196, eq_self, Nat.add_zero, Nat.zero_add, decide_true, decide_false, Bool.not_true, Bool.not_false, Bool.and_true, Bool.true_and, Bool.and_false, Bool.false_and, Bool.or_true, Bool.true_or, Bool.or_false, Bool.false_or, reduceIte, Bool.false_eq_true]
      exact loop_149 (rw_ (rw_ (rw_ T1 2 (upd (T1 2) p ((T1 2 p) + ((imax (-12) (imin 12 ((kp S T p) + (told * (T1 3 p))))) - (kp S T p))))) 4 (upd (T1 4) p told)) 5 (upd (T1 5) p ((T1 5 p) + 1))) rfl _ _ hP hD hS _ (lv_sub hl [1, 2, 3, 4, 5] rfl)
    refine lv_aload_n hx hb dX3_learn_19 rfl (lv_at hl 1 rfl) ?_
    refine gf zS hK hP iG3 rfl 0 rfl 4 (by decide) q103 rfl rfl dX3_learn_20 ?_
    refine lv_iload_n hx hb dX3_learn_23 rfl (lv_at hl 3 rfl) ?_
    refine aldN (j := p) hx hb hK hP 5 0 rfl rfl rfl (by omega) (by decide) dX3_learn_24 ?_
    refine lv_if_ne (tgt := 63) hx hb dX3_learn_25 (by decide) (fun c_25 => ?_) (fun c_25 => ?_)
    · skip
      refine lv_aload_n hx hb dX3_learn_63 rfl (lv_at hl 1 rfl) ?_
      refine gf zS hK hP iG3 rfl 0 rfl 3 (by decide) q102 rfl rfl dX3_learn_64 ?_
      refine lv_iload_n hx hb dX3_learn_67 rfl (lv_at hl 3 rfl) ?_
      refine aldN (j := p) hx hb hK hP 4 0 rfl rfl rfl (by omega) (by decide) dX3_learn_68 ?_
      refine lv_iload_n hx hb dX3_learn_69 rfl (lv_at hl 4 rfl) ?_
      refine lv_icmp_eq (tgt := 91) hx hb dX3_learn_70 (by decide) (fun c_70 => ?_) (fun c_70 => ?_)
      · skip
        exact loop_91 (T) (np) (by simp only [lnA, c_14, c_25, c_70, eq_self, Nat.add_zero, Nat.zero_add, decide_true, decide_false, Bool.not_true, Bool.not_false, Bool.and_true, Bool.true_and, Bool.and_false, Bool.false_and, Bool.or_true, Bool.true_or, Bool.or_false, Bool.false_or, reduceIte, Bool.false_eq_true]) (by simp only [lnN, c_14, c_25, c_70, eq_self, Nat.add_zero, Nat.zero_add, decide_true, decide_false, Bool.not_true, Bool.not_false, Bool.and_true, Bool.true_and, Bool.and_false, Bool.false_and, Bool.or_true, Bool.true_or, Bool.or_false, Bool.false_or, reduceIte, Bool.false_eq_true]) _ _ hP hD hS _ (lv_sub hl [1, 2, 3, 4, 0] rfl)
      · skip
        refine lv_aload_n hx hb dX3_learn_73 rfl (lv_at hl 1 rfl) ?_
        refine gf zS hK hP iG3 rfl 0 rfl 2 (by decide) q100 rfl rfl dX3_learn_74 ?_
        refine lv_iload_n hx hb dX3_learn_77 rfl (lv_at hl 3 rfl) ?_
        refine lv_iconst (v := 1) hx hb dX3_learn_78 (by decide) ?_
        refine lv_aload_n hx hb dX3_learn_79 rfl (lv_at hl 1 rfl) ?_
        refine gf zS hK hP iG3 rfl 0 rfl 2 (by decide) q100 rfl rfl dX3_learn_80 ?_
        refine lv_iload_n hx hb dX3_learn_83 rfl (lv_at hl 3 rfl) ?_
        refine aldN (j := p) hx hb hK hP 3 0 rfl rfl rfl (by omega) (by decide) dX3_learn_84 ?_
        refine lv_iconst (v := 2) hx hb dX3_learn_85 (by decide) ?_
        refine lv_idiv hx hb dX3_learn_86 (by decide) ?_
        refine mxx zS q311 ⟨Nat.le_of_ble_eq_true rfl, Nat.le_of_ble_eq_true rfl⟩ ⟨Nat.zero_le _, Nat.zero_le _⟩ hl.1 dX3_learn_87 ?_
        refine astN (j := p) hx hb hK hP hD hS 3 0 rfl rfl rfl (by omega) (by decide) dX3_learn_90 (fun H locs hP hD hS => ?_)
        have hP : PP g [(t, .inr (3, [.ref (t + 1), .ref (t + 2), .ref (t + 3), .ref (t + 4), .ref (t + 5), .ref (t + 6), .int (T 0 6), .ref (t + 7)])), (t + 1, .inl (g.2 0, 16, .inl (T 1))), (t + 2, .inl (g.2 0, 100, .inl (T 2))), (t + 3, .inl (g.2 0, 100, .inl (upd (T 3) p (imax 1 ((T 3 p) / 2))))), (t + 4, .inl (g.2 0, 100, .inl (T 4))), (t + 5, .inl (g.2 0, 100, .inl (T 5))), (t + 6, .inl (g.2 0, 100, .inl (T 6))), (t + 7, .inl (g.2 0, 40, .inl (T 7))), (s, .inr (2, [.ref (s + 1), .ref (s + 2), .ref (s + 3), .ref (s + 4), .ref (s + 5), .ref (s + 6), .ref (s + 7), .int (S 0 7), .ref t0, .int (S 0 9), .int (S 0 10), .int (S 0 11)])), (s + 1, .inl (g.2 0, 10, .inl (S 1))), (s + 2, .inl (g.2 0, 10, .inl (S 2))), (s + 3, .inl (g.2 0, 10, .inl (S 3))), (s + 4, .inl (g.2 0, 16, .inl (S 4))), (s + 5, .inl (g.2 0, 4, .inl (S 5))), (s + 6, .inl (g.2 0, 40, .inl (S 6))), (s + 7, .inl (g.2 0, 40, .inl (S 7)))] H := hP
        have hD : va_D (inW (tW g t T ++ sW g s t0 S)) [(t, .inr (3, [.ref (t + 1), .ref (t + 2), .ref (t + 3), .ref (t + 4), .ref (t + 5), .ref (t + 6), .int (T 0 6), .ref (t + 7)])), (t + 1, .inl (g.2 0, 16, .inl (T 1))), (t + 2, .inl (g.2 0, 100, .inl (T 2))), (t + 3, .inl (g.2 0, 100, .inl (upd (T 3) p (imax 1 ((T 3 p) / 2))))), (t + 4, .inl (g.2 0, 100, .inl (T 4))), (t + 5, .inl (g.2 0, 100, .inl (T 5))), (t + 6, .inl (g.2 0, 100, .inl (T 6))), (t + 7, .inl (g.2 0, 40, .inl (T 7))), (s, .inr (2, [.ref (s + 1), .ref (s + 2), .ref (s + 3), .ref (s + 4), .ref (s + 5), .ref (s + 6), .ref (s + 7), .int (S 0 7), .ref t0, .int (S 0 9), .int (S 0 10), .int (S 0 11)])), (s + 1, .inl (g.2 0, 10, .inl (S 1))), (s + 2, .inl (g.2 0, 10, .inl (S 2))), (s + 3, .inl (g.2 0, 10, .inl (S 3))), (s + 4, .inl (g.2 0, 16, .inl (S 4))), (s + 5, .inl (g.2 0, 4, .inl (S 5))), (s + 6, .inl (g.2 0, 40, .inl (S 6))), (s + 7, .inl (g.2 0, 40, .inl (S 7)))] := hD
        exact loop_91 (rw_ T 3 (upd (T 3) p (imax 1 ((T 3 p) / 2)))) (np) (by simp only [lnA, c_14, c_25, c_70, eq_self, Nat.add_zero, Nat.zero_add, decide_true, decide_false, Bool.not_true, Bool.not_false, Bool.and_true, Bool.true_and, Bool.and_false, Bool.false_and, Bool.or_true, Bool.true_or, Bool.or_false, Bool.false_or, reduceIte, Bool.false_eq_true]) (by simp only [lnN, c_14, c_25, c_70, eq_self, Nat.add_zero, Nat.zero_add, decide_true, decide_false, Bool.not_true, Bool.not_false, Bool.and_true, Bool.true_and, Bool.and_false, Bool.false_and, Bool.or_true, Bool.true_or, Bool.or_false, Bool.false_or, reduceIte, Bool.false_eq_true]) _ _ hP hD hS _ (lv_sub hl [1, 2, 3, 4, 0] rfl)
    · skip
      refine lv_aload_n hx hb dX3_learn_28 rfl (lv_at hl 1 rfl) ?_
      refine gf zS hK hP iG3 rfl 0 rfl 2 (by decide) q100 rfl rfl dX3_learn_29 ?_
      refine lv_iload_n hx hb dX3_learn_32 rfl (lv_at hl 3 rfl) ?_
      refine lv_aload_n hx hb dX3_learn_33 rfl (lv_at hl 2 rfl) ?_
      refine gf zS hK hP iG2 rfl 8 rfl 4 (by decide) q146 rfl rfl dX3_learn_34 ?_
      refine lv_iconst (v := 0) hx hb dX3_learn_37 (by decide) ?_
      refine aldN (j := 0) hx hb hK hP 13 0 rfl rfl rfl (by omega) (by decide) dX3_learn_38 ?_
      refine astN (j := p) hx hb hK hP hD hS 3 0 rfl rfl rfl (by omega) (by decide) dX3_learn_39 (fun H locs hP hD hS => ?_)
      have hP : PP g [(t, .inr (3, [.ref (t + 1), .ref (t + 2), .ref (t + 3), .ref (t + 4), .ref (t + 5), .ref (t + 6), .int (T 0 6), .ref (t + 7)])), (t + 1, .inl (g.2 0, 16, .inl (T 1))), (t + 2, .inl (g.2 0, 100, .inl (T 2))), (t + 3, .inl (g.2 0, 100, .inl (upd (T 3) p (S 5 0)))), (t + 4, .inl (g.2 0, 100, .inl (T 4))), (t + 5, .inl (g.2 0, 100, .inl (T 5))), (t + 6, .inl (g.2 0, 100, .inl (T 6))), (t + 7, .inl (g.2 0, 40, .inl (T 7))), (s, .inr (2, [.ref (s + 1), .ref (s + 2), .ref (s + 3), .ref (s + 4), .ref (s + 5), .ref (s + 6), .ref (s + 7), .int (S 0 7), .ref t0, .int (S 0 9), .int (S 0 10), .int (S 0 11)])), (s + 1, .inl (g.2 0, 10, .inl (S 1))), (s + 2, .inl (g.2 0, 10, .inl (S 2))), (s + 3, .inl (g.2 0, 10, .inl (S 3))), (s + 4, .inl (g.2 0, 16, .inl (S 4))), (s + 5, .inl (g.2 0, 4, .inl (S 5))), (s + 6, .inl (g.2 0, 40, .inl (S 6))), (s + 7, .inl (g.2 0, 40, .inl (S 7)))] H := hP
      have hD : va_D (inW (tW g t T ++ sW g s t0 S)) [(t, .inr (3, [.ref (t + 1), .ref (t + 2), .ref (t + 3), .ref (t + 4), .ref (t + 5), .ref (t + 6), .int (T 0 6), .ref (t + 7)])), (t + 1, .inl (g.2 0, 16, .inl (T 1))), (t + 2, .inl (g.2 0, 100, .inl (T 2))), (t + 3, .inl (g.2 0, 100, .inl (upd (T 3) p (S 5 0)))), (t + 4, .inl (g.2 0, 100, .inl (T 4))), (t + 5, .inl (g.2 0, 100, .inl (T 5))), (t + 6, .inl (g.2 0, 100, .inl (T 6))), (t + 7, .inl (g.2 0, 40, .inl (T 7))), (s, .inr (2, [.ref (s + 1), .ref (s + 2), .ref (s + 3), .ref (s + 4), .ref (s + 5), .ref (s + 6), .ref (s + 7), .int (S 0 7), .ref t0, .int (S 0 9), .int (S 0 10), .int (S 0 11)])), (s + 1, .inl (g.2 0, 10, .inl (S 1))), (s + 2, .inl (g.2 0, 10, .inl (S 2))), (s + 3, .inl (g.2 0, 10, .inl (S 3))), (s + 4, .inl (g.2 0, 16, .inl (S 4))), (s + 5, .inl (g.2 0, 4, .inl (S 5))), (s + 6, .inl (g.2 0, 40, .inl (S 6))), (s + 7, .inl (g.2 0, 40, .inl (S 7)))] := hD
      refine lv_aload_n hx hb dX3_learn_40 rfl (lv_at hl 1 rfl) ?_
      refine gf zS hK hP iG3 rfl 0 rfl 5 (by decide) q105 rfl rfl dX3_learn_41 ?_
      refine lv_aload_n hx hb dX3_learn_44 rfl (lv_at hl 1 rfl) ?_
      refine gf zS hK hP iG3 rfl 0 rfl 6 (by decide) q107 rfl rfl dX3_learn_45 ?_
      refine topE (hT.1) ?_
      refine lv_iload_n hx hb dX3_learn_48 rfl (lv_at hl 3 rfl) ?_
      refine astN (j := np) hx hb hK hP hD hS 6 0 rfl rfl rfl (by omega) (by decide) dX3_learn_49 (fun H locs hP hD hS => ?_)
      have hP : PP g [(t, .inr (3, [.ref (t + 1), .ref (t + 2), .ref (t + 3), .ref (t + 4), .ref (t + 5), .ref (t + 6), .int (T 0 6), .ref (t + 7)])), (t + 1, .inl (g.2 0, 16, .inl (T 1))), (t + 2, .inl (g.2 0, 100, .inl (T 2))), (t + 3, .inl (g.2 0, 100, .inl (upd (T 3) p (S 5 0)))), (t + 4, .inl (g.2 0, 100, .inl (T 4))), (t + 5, .inl (g.2 0, 100, .inl (T 5))), (t + 6, .inl (g.2 0, 100, .inl (upd (T 6) np (nI p)))), (t + 7, .inl (g.2 0, 40, .inl (T 7))), (s, .inr (2, [.ref (s + 1), .ref (s + 2), .ref (s + 3), .ref (s + 4), .ref (s + 5), .ref (s + 6), .ref (s + 7), .int (S 0 7), .ref t0, .int (S 0 9), .int (S 0 10), .int (S 0 11)])), (s + 1, .inl (g.2 0, 10, .inl (S 1))), (s + 2, .inl (g.2 0, 10, .inl (S 2))), (s + 3, .inl (g.2 0, 10, .inl (S 3))), (s + 4, .inl (g.2 0, 16, .inl (S 4))), (s + 5, .inl (g.2 0, 4, .inl (S 5))), (s + 6, .inl (g.2 0, 40, .inl (S 6))), (s + 7, .inl (g.2 0, 40, .inl (S 7)))] H := hP
      have hD : va_D (inW (tW g t T ++ sW g s t0 S)) [(t, .inr (3, [.ref (t + 1), .ref (t + 2), .ref (t + 3), .ref (t + 4), .ref (t + 5), .ref (t + 6), .int (T 0 6), .ref (t + 7)])), (t + 1, .inl (g.2 0, 16, .inl (T 1))), (t + 2, .inl (g.2 0, 100, .inl (T 2))), (t + 3, .inl (g.2 0, 100, .inl (upd (T 3) p (S 5 0)))), (t + 4, .inl (g.2 0, 100, .inl (T 4))), (t + 5, .inl (g.2 0, 100, .inl (T 5))), (t + 6, .inl (g.2 0, 100, .inl (upd (T 6) np (nI p)))), (t + 7, .inl (g.2 0, 40, .inl (T 7))), (s, .inr (2, [.ref (s + 1), .ref (s + 2), .ref (s + 3), .ref (s + 4), .ref (s + 5), .ref (s + 6), .ref (s + 7), .int (S 0 7), .ref t0, .int (S 0 9), .int (S 0 10), .int (S 0 11)])), (s + 1, .inl (g.2 0, 10, .inl (S 1))), (s + 2, .inl (g.2 0, 10, .inl (S 2))), (s + 3, .inl (g.2 0, 10, .inl (S 3))), (s + 4, .inl (g.2 0, 16, .inl (S 4))), (s + 5, .inl (g.2 0, 4, .inl (S 5))), (s + 6, .inl (g.2 0, 40, .inl (S 6))), (s + 7, .inl (g.2 0, 40, .inl (S 7)))] := hD
      refine lv_aload_n hx hb dX3_learn_50 rfl (lv_at hl 1 rfl) ?_
      refine lv_dup hx hb dX3_learn_51 rfl ?_
      refine gf zS hK hP iG3 rfl 0 rfl 6 (by decide) q107 rfl rfl dX3_learn_52 ?_
      refine topE (hT.1) ?_
      refine lv_iconst (v := 1) hx hb dX3_learn_55 (by decide) ?_
      refine lv_iadd hx hb dX3_learn_56 ?_
      refine topE (nI_add np 1) ?_
      refine pf tyX3 tyX3_ok nmX3 zS hK hP hD hS iG3 rfl 0 rfl 6 (by decide) q107 rfl rfl rfl rfl rfl (Nat.le_of_ble_eq_true rfl) dX3_learn_57 (fun H locs hP hD hS => ?_)
      have hP : PP g [(t, .inr (3, [.ref (t + 1), .ref (t + 2), .ref (t + 3), .ref (t + 4), .ref (t + 5), .ref (t + 6), .int (nI (np + 1)), .ref (t + 7)])), (t + 1, .inl (g.2 0, 16, .inl (T 1))), (t + 2, .inl (g.2 0, 100, .inl (T 2))), (t + 3, .inl (g.2 0, 100, .inl (upd (T 3) p (S 5 0)))), (t + 4, .inl (g.2 0, 100, .inl (T 4))), (t + 5, .inl (g.2 0, 100, .inl (T 5))), (t + 6, .inl (g.2 0, 100, .inl (upd (T 6) np (nI p)))), (t + 7, .inl (g.2 0, 40, .inl (T 7))), (s, .inr (2, [.ref (s + 1), .ref (s + 2), .ref (s + 3), .ref (s + 4), .ref (s + 5), .ref (s + 6), .ref (s + 7), .int (S 0 7), .ref t0, .int (S 0 9), .int (S 0 10), .int (S 0 11)])), (s + 1, .inl (g.2 0, 10, .inl (S 1))), (s + 2, .inl (g.2 0, 10, .inl (S 2))), (s + 3, .inl (g.2 0, 10, .inl (S 3))), (s + 4, .inl (g.2 0, 16, .inl (S 4))), (s + 5, .inl (g.2 0, 4, .inl (S 5))), (s + 6, .inl (g.2 0, 40, .inl (S 6))), (s + 7, .inl (g.2 0, 40, .inl (S 7)))] H := hP
      have hD : va_D (inW (tW g t T ++ sW g s t0 S)) [(t, .inr (3, [.ref (t + 1), .ref (t + 2), .ref (t + 3), .ref (t + 4), .ref (t + 5), .ref (t + 6), .int (nI (np + 1)), .ref (t + 7)])), (t + 1, .inl (g.2 0, 16, .inl (T 1))), (t + 2, .inl (g.2 0, 100, .inl (T 2))), (t + 3, .inl (g.2 0, 100, .inl (upd (T 3) p (S 5 0)))), (t + 4, .inl (g.2 0, 100, .inl (T 4))), (t + 5, .inl (g.2 0, 100, .inl (T 5))), (t + 6, .inl (g.2 0, 100, .inl (upd (T 6) np (nI p)))), (t + 7, .inl (g.2 0, 40, .inl (T 7))), (s, .inr (2, [.ref (s + 1), .ref (s + 2), .ref (s + 3), .ref (s + 4), .ref (s + 5), .ref (s + 6), .ref (s + 7), .int (S 0 7), .ref t0, .int (S 0 9), .int (S 0 10), .int (S 0 11)])), (s + 1, .inl (g.2 0, 10, .inl (S 1))), (s + 2, .inl (g.2 0, 10, .inl (S 2))), (s + 3, .inl (g.2 0, 10, .inl (S 3))), (s + 4, .inl (g.2 0, 16, .inl (S 4))), (s + 5, .inl (g.2 0, 4, .inl (S 5))), (s + 6, .inl (g.2 0, 40, .inl (S 6))), (s + 7, .inl (g.2 0, 40, .inl (S 7)))] := hD
      refine lv_goto (tgt := 91) hx hb dX3_learn_60 (by decide) ?_
      exact loop_91 (rw_ (rw_ (rw_ T 3 (upd (T 3) p (S 5 0))) 6 (upd (T 6) np (nI p))) 0 (upd (T 0) 6 (nI (np + 1)))) (np + 1) (by simp only [lnA, c_14, c_25, eq_self, Nat.add_zero, Nat.zero_add, decide_true, decide_false, Bool.not_true, Bool.not_false, Bool.and_true, Bool.true_and, Bool.and_false, Bool.false_and, Bool.or_true, Bool.true_or, Bool.or_false, Bool.false_or, reduceIte, Bool.false_eq_true]) (by simp only [lnN, c_14, c_25, eq_self, Nat.add_zero, Nat.zero_add, decide_true, decide_false, Bool.not_true, Bool.not_false, Bool.and_true, Bool.true_and, Bool.and_false, Bool.false_and, Bool.or_true, Bool.true_or, Bool.or_false, Bool.false_or, reduceIte, Bool.false_eq_true]) _ _ hP hD hS _ (lv_sub hl [1, 2, 3, 4, 0] rfl)
  · skip
    refine lv_iconst (v := 0) hx hb dX3_learn_17 (by decide) ?_
    refine w_z hx hb hr hlk hS dX3_learn_18 (by decide) ?_ ?_
    · rw [show lrnT S T np p told = T from by simp only [lrnT, lnC, c_14, eq_self, Nat.add_zero, Nat.zero_add, decide_true, decide_false, Bool.not_true, Bool.not_false, Bool.and_true, Bool.true_and, Bool.and_false, Bool.false_and, Bool.or_true, Bool.true_or, Bool.or_false, Bool.false_or, reduceIte, Bool.false_eq_true]]; exact hP
    · simp only [bI, c_14, eq_self, Nat.add_zero, Nat.zero_add, decide_true, decide_false, Bool.not_true, Bool.not_false, Bool.and_true, Bool.true_and, Bool.and_false, Bool.false_and, Bool.or_true, Bool.true_or, Bool.or_false, Bool.false_or, reduceIte, Bool.false_eq_true]
theorem cw_X3_learn : CWV yX3_learn cX3_learn 8 (some .boolean) 3 := ⟨⟨q302, q62, by decide +kernel, by decide +kernel, by decide +kernel⟩, q300, q301⟩
end
