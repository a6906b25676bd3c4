section
-- ===== PART A: goes FIRST, ahead of the names: the tables' words, and 'selects' of the private methods out of them =====
/-- a private method of a class that the tables say can be made, by its rows of tables_1 -/
def lw_okq (q : MethodName × Nat) : Prop := (q.1.cls ≠ "java/lang/invoke/MethodHandle" ∧ q.1.cls ≠ "java/lang/invoke/VarHandle") ∧ Cond.instantiable q.1.cls q.2 ∈ tables_1 ∧ Cond.privateMethod q.1 ∈ tables_1 ∧ Cond.instanceMethod q.1 ∈ tables_1
theorem lw_p0 : lw_okq (⟨"CardCups$Office", "setOut", "()V"⟩, 3) := ⟨⟨by decide +kernel, by decide +kernel⟩, List.mem_of_getElem? (i := 68) (by decide +kernel), List.mem_of_getElem? (i := 97) (by decide +kernel), List.mem_of_getElem? (i := 98) (by decide +kernel)⟩
theorem lw_p1 : lw_okq (⟨"CardCups", "diary", "()LCardCups$Diary;"⟩, 12) := ⟨⟨by decide +kernel, by decide +kernel⟩, List.mem_of_getElem? (i := 25) (by decide +kernel), List.mem_of_getElem? (i := 487) (by decide +kernel), List.mem_of_getElem? (i := 488) (by decide +kernel)⟩
theorem lw_p2 : lw_okq (⟨"CardCups$Ledger", "reckon", "(LCardCups$World;II)I"⟩, 16) := ⟨⟨by decide +kernel, by decide +kernel⟩, List.mem_of_getElem? (i := 211) (by decide +kernel), List.mem_of_getElem? (i := 499) (by decide +kernel), List.mem_of_getElem? (i := 500) (by decide +kernel)⟩
theorem lw_p3 : lw_okq (⟨"CardCups$Diary", "page", "()I"⟩, 4) := ⟨⟨by decide +kernel, by decide +kernel⟩, List.mem_of_getElem? (i := 74) (by decide +kernel), List.mem_of_getElem? (i := 542) (by decide +kernel), List.mem_of_getElem? (i := 543) (by decide +kernel)⟩
theorem lw_p4 : lw_okq (⟨"CardCups$Odds", "load", "(I)J"⟩, 14) := ⟨⟨by decide +kernel, by decide +kernel⟩, List.mem_of_getElem? (i := 217) (by decide +kernel), List.mem_of_getElem? (i := 571) (by decide +kernel), List.mem_of_getElem? (i := 572) (by decide +kernel)⟩
theorem lw_p5 : lw_okq (⟨"CardCups$Odds", "goOn", "()V"⟩, 14) := ⟨⟨by decide +kernel, by decide +kernel⟩, List.mem_of_getElem? (i := 217) (by decide +kernel), List.mem_of_getElem? (i := 585) (by decide +kernel), List.mem_of_getElem? (i := 586) (by decide +kernel)⟩
theorem lw_p6 : lw_okq (⟨"CardCups$Odds", "doStep", "(LCardCups$Habit;II)V"⟩, 14) := ⟨⟨by decide +kernel, by decide +kernel⟩, List.mem_of_getElem? (i := 217) (by decide +kernel), List.mem_of_getElem? (i := 594) (by decide +kernel), List.mem_of_getElem? (i := 595) (by decide +kernel)⟩
theorem lw_p7 : lw_okq (⟨"CardCups$Odds", "clearMemo", "()V"⟩, 14) := ⟨⟨by decide +kernel, by decide +kernel⟩, List.mem_of_getElem? (i := 217) (by decide +kernel), List.mem_of_getElem? (i := 606) (by decide +kernel), List.mem_of_getElem? (i := 607) (by decide +kernel)⟩
theorem lw_p8 : lw_okq (⟨"CardCups$Odds", "isSo", "(LCardCups$Habit;I)Z"⟩, 14) := ⟨⟨by decide +kernel, by decide +kernel⟩, List.mem_of_getElem? (i := 217) (by decide +kernel), List.mem_of_getElem? (i := 610) (by decide +kernel), List.mem_of_getElem? (i := 611) (by decide +kernel)⟩
theorem lw_p9 : lw_okq (⟨"CardCups$Habit", "push", "(I)V"⟩, 9) := ⟨⟨by decide +kernel, by decide +kernel⟩, List.mem_of_getElem? (i := 121) (by decide +kernel), List.mem_of_getElem? (i := 628) (by decide +kernel), List.mem_of_getElem? (i := 629) (by decide +kernel)⟩
theorem lw_p10 : lw_okq (⟨"CardCups$Habit", "pop", "()I"⟩, 9) := ⟨⟨by decide +kernel, by decide +kernel⟩, List.mem_of_getElem? (i := 121) (by decide +kernel), List.mem_of_getElem? (i := 632) (by decide +kernel), List.mem_of_getElem? (i := 633) (by decide +kernel)⟩
theorem lw_p11 : lw_okq (⟨"CardCups$Odds", "doAct", "(IIJ)V"⟩, 14) := ⟨⟨by decide +kernel, by decide +kernel⟩, List.mem_of_getElem? (i := 217) (by decide +kernel), List.mem_of_getElem? (i := 643) (by decide +kernel), List.mem_of_getElem? (i := 644) (by decide +kernel)⟩
theorem lw_p12 : lw_okq (⟨"CardCups$Odds", "drink", "(IJ)V"⟩, 14) := ⟨⟨by decide +kernel, by decide +kernel⟩, List.mem_of_getElem? (i := 217) (by decide +kernel), List.mem_of_getElem? (i := 651) (by decide +kernel), List.mem_of_getElem? (i := 652) (by decide +kernel)⟩
theorem lw_p13 : lw_okq (⟨"CardCups$Odds", "lookInside", "(J)V"⟩, 14) := ⟨⟨by decide +kernel, by decide +kernel⟩, List.mem_of_getElem? (i := 217) (by decide +kernel), List.mem_of_getElem? (i := 655) (by decide +kernel), List.mem_of_getElem? (i := 656) (by decide +kernel)⟩
theorem lw_p14 : lw_okq (⟨"CardCups$Odds", "start", "(J)V"⟩, 14) := ⟨⟨by decide +kernel, by decide +kernel⟩, List.mem_of_getElem? (i := 217) (by decide +kernel), List.mem_of_getElem? (i := 659) (by decide +kernel), List.mem_of_getElem? (i := 660) (by decide +kernel)⟩
theorem lw_p15 : lw_okq (⟨"CardCups$Odds", "forgetSeen", "()V"⟩, 14) := ⟨⟨by decide +kernel, by decide +kernel⟩, List.mem_of_getElem? (i := 217) (by decide +kernel), List.mem_of_getElem? (i := 663) (by decide +kernel), List.mem_of_getElem? (i := 664) (by decide +kernel)⟩
def lw_privs_1 : List (MethodName × Nat) := [(⟨"CardCups$Office", "setOut", "()V"⟩, 3), (⟨"CardCups", "diary", "()LCardCups$Diary;"⟩, 12), (⟨"CardCups$Ledger", "reckon", "(LCardCups$World;II)I"⟩, 16), (⟨"CardCups$Diary", "page", "()I"⟩, 4), (⟨"CardCups$Odds", "load", "(I)J"⟩, 14), (⟨"CardCups$Odds", "goOn", "()V"⟩, 14), (⟨"CardCups$Odds", "doStep", "(LCardCups$Habit;II)V"⟩, 14), (⟨"CardCups$Odds", "clearMemo", "()V"⟩, 14), (⟨"CardCups$Odds", "isSo", "(LCardCups$Habit;I)Z"⟩, 14), (⟨"CardCups$Habit", "push", "(I)V"⟩, 9), (⟨"CardCups$Habit", "pop", "()I"⟩, 9), (⟨"CardCups$Odds", "doAct", "(IIJ)V"⟩, 14), (⟨"CardCups$Odds", "drink", "(IJ)V"⟩, 14), (⟨"CardCups$Odds", "lookInside", "(J)V"⟩, 14), (⟨"CardCups$Odds", "start", "(J)V"⟩, 14), (⟨"CardCups$Odds", "forgetSeen", "()V"⟩, 14)]
theorem lw_r1 : ∀ q ∈ lw_privs_1, lw_okq q := List.forall_mem_cons.mpr ⟨lw_p0, List.forall_mem_cons.mpr ⟨lw_p1, List.forall_mem_cons.mpr ⟨lw_p2, List.forall_mem_cons.mpr ⟨lw_p3, List.forall_mem_cons.mpr ⟨lw_p4, List.forall_mem_cons.mpr ⟨lw_p5, List.forall_mem_cons.mpr ⟨lw_p6, List.forall_mem_cons.mpr ⟨lw_p7, List.forall_mem_cons.mpr ⟨lw_p8, List.forall_mem_cons.mpr ⟨lw_p9, List.forall_mem_cons.mpr ⟨lw_p10, List.forall_mem_cons.mpr ⟨lw_p11, List.forall_mem_cons.mpr ⟨lw_p12, List.forall_mem_cons.mpr ⟨lw_p13, List.forall_mem_cons.mpr ⟨lw_p14, List.forall_mem_cons.mpr ⟨lw_p15, fun _ h => absurd h List.not_mem_nil⟩⟩⟩⟩⟩⟩⟩⟩⟩⟩⟩⟩⟩⟩⟩⟩
theorem lw_p16 : lw_okq (⟨"CardCups$Odds", "startFull", "()V"⟩, 14) := ⟨⟨by decide +kernel, by decide +kernel⟩, List.mem_of_getElem? (i := 217) (by decide +kernel), List.mem_of_getElem? (i := 667) (by decide +kernel), List.mem_of_getElem? (i := 668) (by decide +kernel)⟩
theorem lw_p17 : lw_okq (⟨"CardCups$Ledger", "keepCounts", "()V"⟩, 16) := ⟨⟨by decide +kernel, by decide +kernel⟩, List.mem_of_getElem? (i := 211) (by decide +kernel), List.mem_of_getElem? (i := 687) (by decide +kernel), List.mem_of_getElem? (i := 688) (by decide +kernel)⟩
theorem lw_p18 : lw_okq (⟨"CardCups", "people", "()I"⟩, 12) := ⟨⟨by decide +kernel, by decide +kernel⟩, List.mem_of_getElem? (i := 25) (by decide +kernel), List.mem_of_getElem? (i := 716) (by decide +kernel), List.mem_of_getElem? (i := 717) (by decide +kernel)⟩
theorem lw_p19 : lw_okq (⟨"CardCups$Diary", "copyPage", "(ILCardCups$Diary;I)V"⟩, 4) := ⟨⟨by decide +kernel, by decide +kernel⟩, List.mem_of_getElem? (i := 74) (by decide +kernel), List.mem_of_getElem? (i := 768) (by decide +kernel), List.mem_of_getElem? (i := 769) (by decide +kernel)⟩
theorem lw_p20 : lw_okq (⟨"CardCups", "needBytes", "(II)V"⟩, 12) := ⟨⟨by decide +kernel, by decide +kernel⟩, List.mem_of_getElem? (i := 25) (by decide +kernel), List.mem_of_getElem? (i := 792) (by decide +kernel), List.mem_of_getElem? (i := 793) (by decide +kernel)⟩
theorem lw_p21 : lw_okq (⟨"CardCups", "need", "(Z)V"⟩, 12) := ⟨⟨by decide +kernel, by decide +kernel⟩, List.mem_of_getElem? (i := 25) (by decide +kernel), List.mem_of_getElem? (i := 799) (by decide +kernel), List.mem_of_getElem? (i := 800) (by decide +kernel)⟩
theorem lw_p22 : lw_okq (⟨"java/lang/Throwable", "fillInStackTrace", "(I)Ljava/lang/Throwable;"⟩, 6) := ⟨⟨by decide +kernel, by decide +kernel⟩, List.mem_of_getElem? (i := 840) (by decide +kernel), List.mem_of_getElem? (i := 838) (by decide +kernel), List.mem_of_getElem? (i := 839) (by decide +kernel)⟩
theorem lw_p23 : lw_okq (⟨"CardCups$Office", "readClause", "(LCardCups$Tape;I)V"⟩, 3) := ⟨⟨by decide +kernel, by decide +kernel⟩, List.mem_of_getElem? (i := 68) (by decide +kernel), List.mem_of_getElem? (i := 891) (by decide +kernel), List.mem_of_getElem? (i := 892) (by decide +kernel)⟩
theorem lw_p24 : lw_okq (⟨"CardCups$Tape", "byteAt", "(I)I"⟩, 6) := ⟨⟨by decide +kernel, by decide +kernel⟩, List.mem_of_getElem? (i := 33) (by decide +kernel), List.mem_of_getElem? (i := 902) (by decide +kernel), List.mem_of_getElem? (i := 903) (by decide +kernel)⟩
theorem lw_p25 : lw_okq (⟨"CardCups$Tape", "matches", "(Ljava/lang/String;II)Z"⟩, 6) := ⟨⟨by decide +kernel, by decide +kernel⟩, List.mem_of_getElem? (i := 33) (by decide +kernel), List.mem_of_getElem? (i := 957) (by decide +kernel), List.mem_of_getElem? (i := 958) (by decide +kernel)⟩
theorem lw_p26 : lw_okq (⟨"CardCups$Office", "isTooMany", "(II)Z"⟩, 3) := ⟨⟨by decide +kernel, by decide +kernel⟩, List.mem_of_getElem? (i := 68) (by decide +kernel), List.mem_of_getElem? (i := 965) (by decide +kernel), List.mem_of_getElem? (i := 966) (by decide +kernel)⟩
theorem lw_p27 : lw_okq (⟨"CardCups$Office", "readNumbers", "(ILCardCups$Tape;)V"⟩, 3) := ⟨⟨by decide +kernel, by decide +kernel⟩, List.mem_of_getElem? (i := 68) (by decide +kernel), List.mem_of_getElem? (i := 971) (by decide +kernel), List.mem_of_getElem? (i := 972) (by decide +kernel)⟩
theorem lw_p28 : lw_okq (⟨"CardCups$Office", "readCups", "(LCardCups$Tape;)V"⟩, 3) := ⟨⟨by decide +kernel, by decide +kernel⟩, List.mem_of_getElem? (i := 68) (by decide +kernel), List.mem_of_getElem? (i := 984) (by decide +kernel), List.mem_of_getElem? (i := 985) (by decide +kernel)⟩
theorem lw_p29 : lw_okq (⟨"CardCups$Office", "readPrices", "(LCardCups$Tape;)V"⟩, 3) := ⟨⟨by decide +kernel, by decide +kernel⟩, List.mem_of_getElem? (i := 68) (by decide +kernel), List.mem_of_getElem? (i := 988) (by decide +kernel), List.mem_of_getElem? (i := 989) (by decide +kernel)⟩
theorem lw_p30 : lw_okq (⟨"CardCups$Office", "readVisit", "(LCardCups$Tape;)V"⟩, 3) := ⟨⟨by decide +kernel, by decide +kernel⟩, List.mem_of_getElem? (i := 68) (by decide +kernel), List.mem_of_getElem? (i := 992) (by decide +kernel), List.mem_of_getElem? (i := 993) (by decide +kernel)⟩
theorem lw_p31 : lw_okq (⟨"CardCups", "closeTape", "()Z"⟩, 12) := ⟨⟨by decide +kernel, by decide +kernel⟩, List.mem_of_getElem? (i := 25) (by decide +kernel), List.mem_of_getElem? (i := 1008) (by decide +kernel), List.mem_of_getElem? (i := 1009) (by decide +kernel)⟩
def lw_privs_2 : List (MethodName × Nat) := [(⟨"CardCups$Odds", "startFull", "()V"⟩, 14), (⟨"CardCups$Ledger", "keepCounts", "()V"⟩, 16), (⟨"CardCups", "people", "()I"⟩, 12), (⟨"CardCups$Diary", "copyPage", "(ILCardCups$Diary;I)V"⟩, 4), (⟨"CardCups", "needBytes", "(II)V"⟩, 12), (⟨"CardCups", "need", "(Z)V"⟩, 12), (⟨"java/lang/Throwable", "fillInStackTrace", "(I)Ljava/lang/Throwable;"⟩, 6), (⟨"CardCups$Office", "readClause", "(LCardCups$Tape;I)V"⟩, 3), (⟨"CardCups$Tape", "byteAt", "(I)I"⟩, 6), (⟨"CardCups$Tape", "matches", "(Ljava/lang/String;II)Z"⟩, 6), (⟨"CardCups$Office", "isTooMany", "(II)Z"⟩, 3), (⟨"CardCups$Office", "readNumbers", "(ILCardCups$Tape;)V"⟩, 3), (⟨"CardCups$Office", "readCups", "(LCardCups$Tape;)V"⟩, 3), (⟨"CardCups$Office", "readPrices", "(LCardCups$Tape;)V"⟩, 3), (⟨"CardCups$Office", "readVisit", "(LCardCups$Tape;)V"⟩, 3), (⟨"CardCups", "closeTape", "()Z"⟩, 12)]
theorem lw_r2 : ∀ q ∈ lw_privs_2, lw_okq q := List.forall_mem_cons.mpr ⟨lw_p16, List.forall_mem_cons.mpr ⟨lw_p17, List.forall_mem_cons.mpr ⟨lw_p18, List.forall_mem_cons.mpr ⟨lw_p19, List.forall_mem_cons.mpr ⟨lw_p20, List.forall_mem_cons.mpr ⟨lw_p21, List.forall_mem_cons.mpr ⟨lw_p22, List.forall_mem_cons.mpr ⟨lw_p23, List.forall_mem_cons.mpr ⟨lw_p24, List.forall_mem_cons.mpr ⟨lw_p25, List.forall_mem_cons.mpr ⟨lw_p26, List.forall_mem_cons.mpr ⟨lw_p27, List.forall_mem_cons.mpr ⟨lw_p28, List.forall_mem_cons.mpr ⟨lw_p29, List.forall_mem_cons.mpr ⟨lw_p30, List.forall_mem_cons.mpr ⟨lw_p31, fun _ h => absurd h List.not_mem_nil⟩⟩⟩⟩⟩⟩⟩⟩⟩⟩⟩⟩⟩⟩⟩⟩
theorem lw_p32 : lw_okq (⟨"CardCups", "faultAnswer", "()I"⟩, 12) := ⟨⟨by decide +kernel, by decide +kernel⟩, List.mem_of_getElem? (i := 25) (by decide +kernel), List.mem_of_getElem? (i := 1013) (by decide +kernel), List.mem_of_getElem? (i := 1014) (by decide +kernel)⟩
theorem lw_p33 : lw_okq (⟨"CardCups", "needPerson", "(I)V"⟩, 12) := ⟨⟨by decide +kernel, by decide +kernel⟩, List.mem_of_getElem? (i := 25) (by decide +kernel), List.mem_of_getElem? (i := 1044) (by decide +kernel), List.mem_of_getElem? (i := 1045) (by decide +kernel)⟩
theorem lw_p34 : lw_okq (⟨"CardCups", "needFound", "(Z)V"⟩, 12) := ⟨⟨by decide +kernel, by decide +kernel⟩, List.mem_of_getElem? (i := 25) (by decide +kernel), List.mem_of_getElem? (i := 1048) (by decide +kernel), List.mem_of_getElem? (i := 1049) (by decide +kernel)⟩
theorem lw_p35 : lw_okq (⟨"CardCups", "habitOf", "(I)LCardCups$Habit;"⟩, 12) := ⟨⟨by decide +kernel, by decide +kernel⟩, List.mem_of_getElem? (i := 25) (by decide +kernel), List.mem_of_getElem? (i := 1068) (by decide +kernel), List.mem_of_getElem? (i := 1069) (by decide +kernel)⟩
theorem lw_p36 : lw_okq (⟨"CardCups", "readHabit", "(LCardCups$Habit;I)I"⟩, 12) := ⟨⟨by decide +kernel, by decide +kernel⟩, List.mem_of_getElem? (i := 25) (by decide +kernel), List.mem_of_getElem? (i := 1072) (by decide +kernel), List.mem_of_getElem? (i := 1073) (by decide +kernel)⟩
theorem lw_p37 : lw_okq (⟨"CardCups$Habit", "readStep", "(LCardCups$Tape;)V"⟩, 9) := ⟨⟨by decide +kernel, by decide +kernel⟩, List.mem_of_getElem? (i := 121) (by decide +kernel), List.mem_of_getElem? (i := 1082) (by decide +kernel), List.mem_of_getElem? (i := 1083) (by decide +kernel)⟩
theorem lw_p38 : lw_okq (⟨"CardCups$Habit", "readEither", "(LCardCups$Tape;I)V"⟩, 9) := ⟨⟨by decide +kernel, by decide +kernel⟩, List.mem_of_getElem? (i := 121) (by decide +kernel), List.mem_of_getElem? (i := 1093) (by decide +kernel), List.mem_of_getElem? (i := 1094) (by decide +kernel)⟩
theorem lw_p39 : lw_okq (⟨"CardCups$Habit", "readBoth", "(LCardCups$Tape;I)V"⟩, 9) := ⟨⟨by decide +kernel, by decide +kernel⟩, List.mem_of_getElem? (i := 121) (by decide +kernel), List.mem_of_getElem? (i := 1097) (by decide +kernel), List.mem_of_getElem? (i := 1098) (by decide +kernel)⟩
theorem lw_p40 : lw_okq (⟨"CardCups$Habit", "readClaim", "(LCardCups$Tape;I)V"⟩, 9) := ⟨⟨by decide +kernel, by decide +kernel⟩, List.mem_of_getElem? (i := 121) (by decide +kernel), List.mem_of_getElem? (i := 1101) (by decide +kernel), List.mem_of_getElem? (i := 1102) (by decide +kernel)⟩
theorem lw_p41 : lw_okq (⟨"CardCups$Habit", "order", "(II)V"⟩, 9) := ⟨⟨by decide +kernel, by decide +kernel⟩, List.mem_of_getElem? (i := 121) (by decide +kernel), List.mem_of_getElem? (i := 1110) (by decide +kernel), List.mem_of_getElem? (i := 1111) (by decide +kernel)⟩
theorem lw_p42 : lw_okq (⟨"CardCups$Habit", "readSum", "(LCardCups$Tape;I)V"⟩, 9) := ⟨⟨by decide +kernel, by decide +kernel⟩, List.mem_of_getElem? (i := 121) (by decide +kernel), List.mem_of_getElem? (i := 1116) (by decide +kernel), List.mem_of_getElem? (i := 1117) (by decide +kernel)⟩
theorem lw_p43 : lw_okq (⟨"CardCups$Habit", "readProduct", "(LCardCups$Tape;I)V"⟩, 9) := ⟨⟨by decide +kernel, by decide +kernel⟩, List.mem_of_getElem? (i := 121) (by decide +kernel), List.mem_of_getElem? (i := 1120) (by decide +kernel), List.mem_of_getElem? (i := 1121) (by decide +kernel)⟩
theorem lw_p44 : lw_okq (⟨"CardCups$Habit", "readUnit", "(LCardCups$Tape;I)V"⟩, 9) := ⟨⟨by decide +kernel, by decide +kernel⟩, List.mem_of_getElem? (i := 121) (by decide +kernel), List.mem_of_getElem? (i := 1124) (by decide +kernel), List.mem_of_getElem? (i := 1125) (by decide +kernel)⟩
theorem lw_p45 : lw_okq (⟨"CardCups$Book", "readLine", "(LCardCups$Tape;)V"⟩, 4) := ⟨⟨by decide +kernel, by decide +kernel⟩, List.mem_of_getElem? (i := 158) (by decide +kernel), List.mem_of_getElem? (i := 1158) (by decide +kernel), List.mem_of_getElem? (i := 1159) (by decide +kernel)⟩
theorem lw_p46 : lw_okq (⟨"CardCups", "needVisit", "(I)V"⟩, 12) := ⟨⟨by decide +kernel, by decide +kernel⟩, List.mem_of_getElem? (i := 25) (by decide +kernel), List.mem_of_getElem? (i := 1186) (by decide +kernel), List.mem_of_getElem? (i := 1187) (by decide +kernel)⟩
theorem lw_p47 : lw_okq (⟨"CardCups$Ledger", "reckonGiven", "(LCardCups$World;)V"⟩, 16) := ⟨⟨by decide +kernel, by decide +kernel⟩, List.mem_of_getElem? (i := 211) (by decide +kernel), List.mem_of_getElem? (i := 1323) (by decide +kernel), List.mem_of_getElem? (i := 1324) (by decide +kernel)⟩
def lw_privs_3 : List (MethodName × Nat) := [(⟨"CardCups", "faultAnswer", "()I"⟩, 12), (⟨"CardCups", "needPerson", "(I)V"⟩, 12), (⟨"CardCups", "needFound", "(Z)V"⟩, 12), (⟨"CardCups", "habitOf", "(I)LCardCups$Habit;"⟩, 12), (⟨"CardCups", "readHabit", "(LCardCups$Habit;I)I"⟩, 12), (⟨"CardCups$Habit", "readStep", "(LCardCups$Tape;)V"⟩, 9), (⟨"CardCups$Habit", "readEither", "(LCardCups$Tape;I)V"⟩, 9), (⟨"CardCups$Habit", "readBoth", "(LCardCups$Tape;I)V"⟩, 9), (⟨"CardCups$Habit", "readClaim", "(LCardCups$Tape;I)V"⟩, 9), (⟨"CardCups$Habit", "order", "(II)V"⟩, 9), (⟨"CardCups$Habit", "readSum", "(LCardCups$Tape;I)V"⟩, 9), (⟨"CardCups$Habit", "readProduct", "(LCardCups$Tape;I)V"⟩, 9), (⟨"CardCups$Habit", "readUnit", "(LCardCups$Tape;I)V"⟩, 9), (⟨"CardCups$Book", "readLine", "(LCardCups$Tape;)V"⟩, 4), (⟨"CardCups", "needVisit", "(I)V"⟩, 12), (⟨"CardCups$Ledger", "reckonGiven", "(LCardCups$World;)V"⟩, 16)]
theorem lw_r3 : ∀ q ∈ lw_privs_3, lw_okq q := List.forall_mem_cons.mpr ⟨lw_p32, List.forall_mem_cons.mpr ⟨lw_p33, List.forall_mem_cons.mpr ⟨lw_p34, List.forall_mem_cons.mpr ⟨lw_p35, List.forall_mem_cons.mpr ⟨lw_p36, List.forall_mem_cons.mpr ⟨lw_p37, List.forall_mem_cons.mpr ⟨lw_p38, List.forall_mem_cons.mpr ⟨lw_p39, List.forall_mem_cons.mpr ⟨lw_p40, List.forall_mem_cons.mpr ⟨lw_p41, List.forall_mem_cons.mpr ⟨lw_p42, List.forall_mem_cons.mpr ⟨lw_p43, List.forall_mem_cons.mpr ⟨lw_p44, List.forall_mem_cons.mpr ⟨lw_p45, List.forall_mem_cons.mpr ⟨lw_p46, List.forall_mem_cons.mpr ⟨lw_p47, fun _ h => absurd h List.not_mem_nil⟩⟩⟩⟩⟩⟩⟩⟩⟩⟩⟩⟩⟩⟩⟩⟩
theorem lw_p48 : lw_okq (⟨"CardCups$Odds", "takeCost", "(LCardCups$Office;J)J"⟩, 14) := ⟨⟨by decide +kernel, by decide +kernel⟩, List.mem_of_getElem? (i := 217) (by decide +kernel), List.mem_of_getElem? (i := 1351) (by decide +kernel), List.mem_of_getElem? (i := 1352) (by decide +kernel)⟩
theorem lw_p49 : lw_okq (⟨"CardCups$Odds", "startCost", "(LCardCups$Office;J)J"⟩, 14) := ⟨⟨by decide +kernel, by decide +kernel⟩, List.mem_of_getElem? (i := 217) (by decide +kernel), List.mem_of_getElem? (i := 1355) (by decide +kernel), List.mem_of_getElem? (i := 1356) (by decide +kernel)⟩
theorem lw_p50 : lw_okq (⟨"CardCups$Day", "passVisit", "(LCardCups$World;I)V"⟩, 5) := ⟨⟨by decide +kernel, by decide +kernel⟩, List.mem_of_getElem? (i := 404) (by decide +kernel), List.mem_of_getElem? (i := 1465) (by decide +kernel), List.mem_of_getElem? (i := 1466) (by decide +kernel)⟩
theorem lw_p51 : lw_okq (⟨"CardCups$Day", "draw", "(I)I"⟩, 5) := ⟨⟨by decide +kernel, by decide +kernel⟩, List.mem_of_getElem? (i := 404) (by decide +kernel), List.mem_of_getElem? (i := 1470) (by decide +kernel), List.mem_of_getElem? (i := 1471) (by decide +kernel)⟩
theorem lw_p52 : lw_okq (⟨"CardCups$Day", "isDone", "(LCardCups$Habit;I)Z"⟩, 5) := ⟨⟨by decide +kernel, by decide +kernel⟩, List.mem_of_getElem? (i := 404) (by decide +kernel), List.mem_of_getElem? (i := 1477) (by decide +kernel), List.mem_of_getElem? (i := 1478) (by decide +kernel)⟩
theorem lw_p53 : lw_okq (⟨"CardCups$Day", "doAct", "(II)V"⟩, 5) := ⟨⟨by decide +kernel, by decide +kernel⟩, List.mem_of_getElem? (i := 404) (by decide +kernel), List.mem_of_getElem? (i := 1485) (by decide +kernel), List.mem_of_getElem? (i := 1486) (by decide +kernel)⟩
theorem lw_p54 : lw_okq (⟨"CardCups$Day", "drink", "()V"⟩, 5) := ⟨⟨by decide +kernel, by decide +kernel⟩, List.mem_of_getElem? (i := 404) (by decide +kernel), List.mem_of_getElem? (i := 1490) (by decide +kernel), List.mem_of_getElem? (i := 1491) (by decide +kernel)⟩
theorem lw_p55 : lw_okq (⟨"CardCups$Day", "lookInside", "(I)V"⟩, 5) := ⟨⟨by decide +kernel, by decide +kernel⟩, List.mem_of_getElem? (i := 404) (by decide +kernel), List.mem_of_getElem? (i := 1494) (by decide +kernel), List.mem_of_getElem? (i := 1495) (by decide +kernel)⟩
theorem lw_p56 : lw_okq (⟨"CardCups$Day", "start", "()V"⟩, 5) := ⟨⟨by decide +kernel, by decide +kernel⟩, List.mem_of_getElem? (i := 404) (by decide +kernel), List.mem_of_getElem? (i := 1498) (by decide +kernel), List.mem_of_getElem? (i := 1499) (by decide +kernel)⟩
theorem lw_p57 : lw_okq (⟨"CardCupsModel", "clears", "()V"⟩, 65) := ⟨⟨by decide +kernel, by decide +kernel⟩, List.mem_of_getElem? (i := 1555) (by decide +kernel), List.mem_of_getElem? (i := 1561) (by decide +kernel), List.mem_of_getElem? (i := 1562) (by decide +kernel)⟩
theorem lw_p58 : lw_okq (⟨"CardCupsModel", "sets", "()V"⟩, 65) := ⟨⟨by decide +kernel, by decide +kernel⟩, List.mem_of_getElem? (i := 1555) (by decide +kernel), List.mem_of_getElem? (i := 1565) (by decide +kernel), List.mem_of_getElem? (i := 1566) (by decide +kernel)⟩
theorem lw_p59 : lw_okq (⟨"CardCupsModel", "copies", "([I[II)V"⟩, 65) := ⟨⟨by decide +kernel, by decide +kernel⟩, List.mem_of_getElem? (i := 1555) (by decide +kernel), List.mem_of_getElem? (i := 1569) (by decide +kernel), List.mem_of_getElem? (i := 1570) (by decide +kernel)⟩
theorem lw_p60 : lw_okq (⟨"CardCupsModel", "may", "(ZII)Z"⟩, 65) := ⟨⟨by decide +kernel, by decide +kernel⟩, List.mem_of_getElem? (i := 1555) (by decide +kernel), List.mem_of_getElem? (i := 1781) (by decide +kernel), List.mem_of_getElem? (i := 1782) (by decide +kernel)⟩
theorem lw_p61 : lw_okq (⟨"CardCupsModel", "begins", "(I)V"⟩, 65) := ⟨⟨by decide +kernel, by decide +kernel⟩, List.mem_of_getElem? (i := 1555) (by decide +kernel), List.mem_of_getElem? (i := 1785) (by decide +kernel), List.mem_of_getElem? (i := 1786) (by decide +kernel)⟩
theorem lw_p62 : lw_okq (⟨"CardCupsModel", "fine", "()Z"⟩, 65) := ⟨⟨by decide +kernel, by decide +kernel⟩, List.mem_of_getElem? (i := 1555) (by decide +kernel), List.mem_of_getElem? (i := 1789) (by decide +kernel), List.mem_of_getElem? (i := 1790) (by decide +kernel)⟩
theorem lw_p63 : lw_okq (⟨"CardCupsModel", "isMore", "()Z"⟩, 65) := ⟨⟨by decide +kernel, by decide +kernel⟩, List.mem_of_getElem? (i := 1555) (by decide +kernel), List.mem_of_getElem? (i := 1793) (by decide +kernel), List.mem_of_getElem? (i := 1794) (by decide +kernel)⟩
def lw_privs_4 : List (MethodName × Nat) := [(⟨"CardCups$Odds", "takeCost", "(LCardCups$Office;J)J"⟩, 14), (⟨"CardCups$Odds", "startCost", "(LCardCups$Office;J)J"⟩, 14), (⟨"CardCups$Day", "passVisit", "(LCardCups$World;I)V"⟩, 5), (⟨"CardCups$Day", "draw", "(I)I"⟩, 5), (⟨"CardCups$Day", "isDone", "(LCardCups$Habit;I)Z"⟩, 5), (⟨"CardCups$Day", "doAct", "(II)V"⟩, 5), (⟨"CardCups$Day", "drink", "()V"⟩, 5), (⟨"CardCups$Day", "lookInside", "(I)V"⟩, 5), (⟨"CardCups$Day", "start", "()V"⟩, 5), (⟨"CardCupsModel", "clears", "()V"⟩, 65), (⟨"CardCupsModel", "sets", "()V"⟩, 65), (⟨"CardCupsModel", "copies", "([I[II)V"⟩, 65), (⟨"CardCupsModel", "may", "(ZII)Z"⟩, 65), (⟨"CardCupsModel", "begins", "(I)V"⟩, 65), (⟨"CardCupsModel", "fine", "()Z"⟩, 65), (⟨"CardCupsModel", "isMore", "()Z"⟩, 65)]
theorem lw_r4 : ∀ q ∈ lw_privs_4, lw_okq q := List.forall_mem_cons.mpr ⟨lw_p48, List.forall_mem_cons.mpr ⟨lw_p49, List.forall_mem_cons.mpr ⟨lw_p50, List.forall_mem_cons.mpr ⟨lw_p51, List.forall_mem_cons.mpr ⟨lw_p52, List.forall_mem_cons.mpr ⟨lw_p53, List.forall_mem_cons.mpr ⟨lw_p54, List.forall_mem_cons.mpr ⟨lw_p55, List.forall_mem_cons.mpr ⟨lw_p56, List.forall_mem_cons.mpr ⟨lw_p57, List.forall_mem_cons.mpr ⟨lw_p58, List.forall_mem_cons.mpr ⟨lw_p59, List.forall_mem_cons.mpr ⟨lw_p60, List.forall_mem_cons.mpr ⟨lw_p61, List.forall_mem_cons.mpr ⟨lw_p62, List.forall_mem_cons.mpr ⟨lw_p63, fun _ h => absurd h List.not_mem_nil⟩⟩⟩⟩⟩⟩⟩⟩⟩⟩⟩⟩⟩⟩⟩⟩
theorem lw_p64 : lw_okq (⟨"CardCupsModel", "here", "()I"⟩, 65) := ⟨⟨by decide +kernel, by decide +kernel⟩, List.mem_of_getElem? (i := 1555) (by decide +kernel), List.mem_of_getElem? (i := 1797) (by decide +kernel), List.mem_of_getElem? (i := 1798) (by decide +kernel)⟩
theorem lw_p65 : lw_okq (⟨"CardCupsModel", "clauseHere", "()I"⟩, 65) := ⟨⟨by decide +kernel, by decide +kernel⟩, List.mem_of_getElem? (i := 1555) (by decide +kernel), List.mem_of_getElem? (i := 1801) (by decide +kernel), List.mem_of_getElem? (i := 1802) (by decide +kernel)⟩
theorem lw_p66 : lw_okq (⟨"CardCupsModel", "standsHere", "(Ljava/lang/String;)Z"⟩, 65) := ⟨⟨by decide +kernel, by decide +kernel⟩, List.mem_of_getElem? (i := 1555) (by decide +kernel), List.mem_of_getElem? (i := 1806) (by decide +kernel), List.mem_of_getElem? (i := 1807) (by decide +kernel)⟩
theorem lw_p67 : lw_okq (⟨"CardCupsModel", "word", "()I"⟩, 65) := ⟨⟨by decide +kernel, by decide +kernel⟩, List.mem_of_getElem? (i := 1555) (by decide +kernel), List.mem_of_getElem? (i := 1815) (by decide +kernel), List.mem_of_getElem? (i := 1816) (by decide +kernel)⟩
theorem lw_p68 : lw_okq (⟨"CardCupsModel", "wrong", "(II)V"⟩, 65) := ⟨⟨by decide +kernel, by decide +kernel⟩, List.mem_of_getElem? (i := 1555) (by decide +kernel), List.mem_of_getElem? (i := 1830) (by decide +kernel), List.mem_of_getElem? (i := 1831) (by decide +kernel)⟩
theorem lw_p69 : lw_okq (⟨"CardCupsModel", "pass", "()V"⟩, 65) := ⟨⟨by decide +kernel, by decide +kernel⟩, List.mem_of_getElem? (i := 1555) (by decide +kernel), List.mem_of_getElem? (i := 1834) (by decide +kernel), List.mem_of_getElem? (i := 1835) (by decide +kernel)⟩
theorem lw_p70 : lw_okq (⟨"CardCupsModel", "readClause", "(I)V"⟩, 65) := ⟨⟨by decide +kernel, by decide +kernel⟩, List.mem_of_getElem? (i := 1555) (by decide +kernel), List.mem_of_getElem? (i := 1838) (by decide +kernel), List.mem_of_getElem? (i := 1839) (by decide +kernel)⟩
theorem lw_p71 : lw_okq (⟨"CardCupsModel", "readNumber", "(II)I"⟩, 65) := ⟨⟨by decide +kernel, by decide +kernel⟩, List.mem_of_getElem? (i := 1555) (by decide +kernel), List.mem_of_getElem? (i := 1842) (by decide +kernel), List.mem_of_getElem? (i := 1843) (by decide +kernel)⟩
theorem lw_p72 : lw_okq (⟨"CardCupsModel", "puts", "([I[IIII)I"⟩, 65) := ⟨⟨by decide +kernel, by decide +kernel⟩, List.mem_of_getElem? (i := 1555) (by decide +kernel), List.mem_of_getElem? (i := 1849) (by decide +kernel), List.mem_of_getElem? (i := 1850) (by decide +kernel)⟩
theorem lw_p73 : lw_okq (⟨"CardCupsModel", "sign", "(I)V"⟩, 65) := ⟨⟨by decide +kernel, by decide +kernel⟩, List.mem_of_getElem? (i := 1555) (by decide +kernel), List.mem_of_getElem? (i := 1853) (by decide +kernel), List.mem_of_getElem? (i := 1854) (by decide +kernel)⟩
theorem lw_p74 : lw_okq (⟨"CardCupsModel", "result", "(I)I"⟩, 65) := ⟨⟨by decide +kernel, by decide +kernel⟩, List.mem_of_getElem? (i := 1555) (by decide +kernel), List.mem_of_getElem? (i := 1857) (by decide +kernel), List.mem_of_getElem? (i := 1858) (by decide +kernel)⟩
theorem lw_p75 : lw_okq (⟨"CardCupsModel", "isPerson", "(II)Z"⟩, 65) := ⟨⟨by decide +kernel, by decide +kernel⟩, List.mem_of_getElem? (i := 1555) (by decide +kernel), List.mem_of_getElem? (i := 1865) (by decide +kernel), List.mem_of_getElem? (i := 1866) (by decide +kernel)⟩
theorem lw_p76 : lw_okq (⟨"CardCupsModel", "isTold", "(I)Z"⟩, 65) := ⟨⟨by decide +kernel, by decide +kernel⟩, List.mem_of_getElem? (i := 1555) (by decide +kernel), List.mem_of_getElem? (i := 1872) (by decide +kernel), List.mem_of_getElem? (i := 1873) (by decide +kernel)⟩
theorem lw_p77 : lw_okq (⟨"CardCupsModel", "readHabit", "(II)I"⟩, 65) := ⟨⟨by decide +kernel, by decide +kernel⟩, List.mem_of_getElem? (i := 1555) (by decide +kernel), List.mem_of_getElem? (i := 1876) (by decide +kernel), List.mem_of_getElem? (i := 1877) (by decide +kernel)⟩
theorem lw_p78 : lw_okq (⟨"CardCupsModel", "readStep", "()V"⟩, 65) := ⟨⟨by decide +kernel, by decide +kernel⟩, List.mem_of_getElem? (i := 1555) (by decide +kernel), List.mem_of_getElem? (i := 1880) (by decide +kernel), List.mem_of_getElem? (i := 1881) (by decide +kernel)⟩
theorem lw_p79 : lw_okq (⟨"CardCupsModel", "readAny", "()V"⟩, 65) := ⟨⟨by decide +kernel, by decide +kernel⟩, List.mem_of_getElem? (i := 1555) (by decide +kernel), List.mem_of_getElem? (i := 1897) (by decide +kernel), List.mem_of_getElem? (i := 1898) (by decide +kernel)⟩
def lw_privs_5 : List (MethodName × Nat) := [(⟨"CardCupsModel", "here", "()I"⟩, 65), (⟨"CardCupsModel", "clauseHere", "()I"⟩, 65), (⟨"CardCupsModel", "standsHere", "(Ljava/lang/String;)Z"⟩, 65), (⟨"CardCupsModel", "word", "()I"⟩, 65), (⟨"CardCupsModel", "wrong", "(II)V"⟩, 65), (⟨"CardCupsModel", "pass", "()V"⟩, 65), (⟨"CardCupsModel", "readClause", "(I)V"⟩, 65), (⟨"CardCupsModel", "readNumber", "(II)I"⟩, 65), (⟨"CardCupsModel", "puts", "([I[IIII)I"⟩, 65), (⟨"CardCupsModel", "sign", "(I)V"⟩, 65), (⟨"CardCupsModel", "result", "(I)I"⟩, 65), (⟨"CardCupsModel", "isPerson", "(II)Z"⟩, 65), (⟨"CardCupsModel", "isTold", "(I)Z"⟩, 65), (⟨"CardCupsModel", "readHabit", "(II)I"⟩, 65), (⟨"CardCupsModel", "readStep", "()V"⟩, 65), (⟨"CardCupsModel", "readAny", "()V"⟩, 65)]
theorem lw_r5 : ∀ q ∈ lw_privs_5, lw_okq q := List.forall_mem_cons.mpr ⟨lw_p64, List.forall_mem_cons.mpr ⟨lw_p65, List.forall_mem_cons.mpr ⟨lw_p66, List.forall_mem_cons.mpr ⟨lw_p67, List.forall_mem_cons.mpr ⟨lw_p68, List.forall_mem_cons.mpr ⟨lw_p69, List.forall_mem_cons.mpr ⟨lw_p70, List.forall_mem_cons.mpr ⟨lw_p71, List.forall_mem_cons.mpr ⟨lw_p72, List.forall_mem_cons.mpr ⟨lw_p73, List.forall_mem_cons.mpr ⟨lw_p74, List.forall_mem_cons.mpr ⟨lw_p75, List.forall_mem_cons.mpr ⟨lw_p76, List.forall_mem_cons.mpr ⟨lw_p77, List.forall_mem_cons.mpr ⟨lw_p78, List.forall_mem_cons.mpr ⟨lw_p79, fun _ h => absurd h List.not_mem_nil⟩⟩⟩⟩⟩⟩⟩⟩⟩⟩⟩⟩⟩⟩⟩⟩
theorem lw_p80 : lw_okq (⟨"CardCupsModel", "readAll", "()V"⟩, 65) := ⟨⟨by decide +kernel, by decide +kernel⟩, List.mem_of_getElem? (i := 1555) (by decide +kernel), List.mem_of_getElem? (i := 1901) (by decide +kernel), List.mem_of_getElem? (i := 1902) (by decide +kernel)⟩
theorem lw_p81 : lw_okq (⟨"CardCupsModel", "readOne", "()V"⟩, 65) := ⟨⟨by decide +kernel, by decide +kernel⟩, List.mem_of_getElem? (i := 1555) (by decide +kernel), List.mem_of_getElem? (i := 1905) (by decide +kernel), List.mem_of_getElem? (i := 1906) (by decide +kernel)⟩
theorem lw_p82 : lw_okq (⟨"CardCupsModel", "opensOne", "(I)V"⟩, 65) := ⟨⟨by decide +kernel, by decide +kernel⟩, List.mem_of_getElem? (i := 1555) (by decide +kernel), List.mem_of_getElem? (i := 1909) (by decide +kernel), List.mem_of_getElem? (i := 1910) (by decide +kernel)⟩
theorem lw_p83 : lw_okq (⟨"CardCupsModel", "emit", "(II)V"⟩, 65) := ⟨⟨by decide +kernel, by decide +kernel⟩, List.mem_of_getElem? (i := 1555) (by decide +kernel), List.mem_of_getElem? (i := 1914) (by decide +kernel), List.mem_of_getElem? (i := 1915) (by decide +kernel)⟩
theorem lw_p84 : lw_okq (⟨"CardCupsModel", "readSum", "()V"⟩, 65) := ⟨⟨by decide +kernel, by decide +kernel⟩, List.mem_of_getElem? (i := 1555) (by decide +kernel), List.mem_of_getElem? (i := 1918) (by decide +kernel), List.mem_of_getElem? (i := 1919) (by decide +kernel)⟩
theorem lw_p85 : lw_okq (⟨"CardCupsModel", "readProduct", "()V"⟩, 65) := ⟨⟨by decide +kernel, by decide +kernel⟩, List.mem_of_getElem? (i := 1555) (by decide +kernel), List.mem_of_getElem? (i := 1922) (by decide +kernel), List.mem_of_getElem? (i := 1923) (by decide +kernel)⟩
theorem lw_p86 : lw_okq (⟨"CardCupsModel", "readUnit", "()V"⟩, 65) := ⟨⟨by decide +kernel, by decide +kernel⟩, List.mem_of_getElem? (i := 1555) (by decide +kernel), List.mem_of_getElem? (i := 1926) (by decide +kernel), List.mem_of_getElem? (i := 1927) (by decide +kernel)⟩
theorem lw_p87 : lw_okq (⟨"CardCupsModel", "isVisit", "(II)Z"⟩, 65) := ⟨⟨by decide +kernel, by decide +kernel⟩, List.mem_of_getElem? (i := 1555) (by decide +kernel), List.mem_of_getElem? (i := 1957) (by decide +kernel), List.mem_of_getElem? (i := 1958) (by decide +kernel)⟩
theorem lw_p88 : lw_okq (⟨"CardCupsModel", "whichOf", "(I)I"⟩, 65) := ⟨⟨by decide +kernel, by decide +kernel⟩, List.mem_of_getElem? (i := 1555) (by decide +kernel), List.mem_of_getElem? (i := 1961) (by decide +kernel), List.mem_of_getElem? (i := 1962) (by decide +kernel)⟩
theorem lw_p89 : lw_okq (⟨"CardCupsModel", "sinceOf", "(I)I"⟩, 65) := ⟨⟨by decide +kernel, by decide +kernel⟩, List.mem_of_getElem? (i := 1555) (by decide +kernel), List.mem_of_getElem? (i := 1965) (by decide +kernel), List.mem_of_getElem? (i := 1966) (by decide +kernel)⟩
theorem lw_p90 : lw_okq (⟨"CardCupsModel", "plain", "()V"⟩, 65) := ⟨⟨by decide +kernel, by decide +kernel⟩, List.mem_of_getElem? (i := 1555) (by decide +kernel), List.mem_of_getElem? (i := 1981) (by decide +kernel), List.mem_of_getElem? (i := 1982) (by decide +kernel)⟩
theorem lw_p91 : lw_okq (⟨"CardCupsModel", "goes", "(I)V"⟩, 65) := ⟨⟨by decide +kernel, by decide +kernel⟩, List.mem_of_getElem? (i := 1555) (by decide +kernel), List.mem_of_getElem? (i := 1985) (by decide +kernel), List.mem_of_getElem? (i := 1986) (by decide +kernel)⟩
theorem lw_p92 : lw_okq (⟨"CardCupsModel", "begin", "()V"⟩, 65) := ⟨⟨by decide +kernel, by decide +kernel⟩, List.mem_of_getElem? (i := 1555) (by decide +kernel), List.mem_of_getElem? (i := 1989) (by decide +kernel), List.mem_of_getElem? (i := 1990) (by decide +kernel)⟩
theorem lw_p93 : lw_okq (⟨"CardCupsModel", "comes", "(I)V"⟩, 65) := ⟨⟨by decide +kernel, by decide +kernel⟩, List.mem_of_getElem? (i := 1555) (by decide +kernel), List.mem_of_getElem? (i := 1997) (by decide +kernel), List.mem_of_getElem? (i := 1998) (by decide +kernel)⟩
theorem lw_p94 : lw_okq (⟨"CardCupsModel", "falls", "()V"⟩, 65) := ⟨⟨by decide +kernel, by decide +kernel⟩, List.mem_of_getElem? (i := 1555) (by decide +kernel), List.mem_of_getElem? (i := 2001) (by decide +kernel), List.mem_of_getElem? (i := 2002) (by decide +kernel)⟩
theorem lw_p95 : lw_okq (⟨"CardCupsModel", "stateOf", "(I)V"⟩, 65) := ⟨⟨by decide +kernel, by decide +kernel⟩, List.mem_of_getElem? (i := 1555) (by decide +kernel), List.mem_of_getElem? (i := 2005) (by decide +kernel), List.mem_of_getElem? (i := 2006) (by decide +kernel)⟩
def lw_privs_6 : List (MethodName × Nat) := [(⟨"CardCupsModel", "readAll", "()V"⟩, 65), (⟨"CardCupsModel", "readOne", "()V"⟩, 65), (⟨"CardCupsModel", "opensOne", "(I)V"⟩, 65), (⟨"CardCupsModel", "emit", "(II)V"⟩, 65), (⟨"CardCupsModel", "readSum", "()V"⟩, 65), (⟨"CardCupsModel", "readProduct", "()V"⟩, 65), (⟨"CardCupsModel", "readUnit", "()V"⟩, 65), (⟨"CardCupsModel", "isVisit", "(II)Z"⟩, 65), (⟨"CardCupsModel", "whichOf", "(I)I"⟩, 65), (⟨"CardCupsModel", "sinceOf", "(I)I"⟩, 65), (⟨"CardCupsModel", "plain", "()V"⟩, 65), (⟨"CardCupsModel", "goes", "(I)V"⟩, 65), (⟨"CardCupsModel", "begin", "()V"⟩, 65), (⟨"CardCupsModel", "comes", "(I)V"⟩, 65), (⟨"CardCupsModel", "falls", "()V"⟩, 65), (⟨"CardCupsModel", "stateOf", "(I)V"⟩, 65)]
theorem lw_r6 : ∀ q ∈ lw_privs_6, lw_okq q := List.forall_mem_cons.mpr ⟨lw_p80, List.forall_mem_cons.mpr ⟨lw_p81, List.forall_mem_cons.mpr ⟨lw_p82, List.forall_mem_cons.mpr ⟨lw_p83, List.forall_mem_cons.mpr ⟨lw_p84, List.forall_mem_cons.mpr ⟨lw_p85, List.forall_mem_cons.mpr ⟨lw_p86, List.forall_mem_cons.mpr ⟨lw_p87, List.forall_mem_cons.mpr ⟨lw_p88, List.forall_mem_cons.mpr ⟨lw_p89, List.forall_mem_cons.mpr ⟨lw_p90, List.forall_mem_cons.mpr ⟨lw_p91, List.forall_mem_cons.mpr ⟨lw_p92, List.forall_mem_cons.mpr ⟨lw_p93, List.forall_mem_cons.mpr ⟨lw_p94, List.forall_mem_cons.mpr ⟨lw_p95, fun _ h => absurd h List.not_mem_nil⟩⟩⟩⟩⟩⟩⟩⟩⟩⟩⟩⟩⟩⟩⟩⟩
theorem lw_p96 : lw_okq (⟨"CardCupsModel", "gives", "(IJ)V"⟩, 65) := ⟨⟨by decide +kernel, by decide +kernel⟩, List.mem_of_getElem? (i := 1555) (by decide +kernel), List.mem_of_getElem? (i := 2010) (by decide +kernel), List.mem_of_getElem? (i := 2011) (by decide +kernel)⟩
theorem lw_p97 : lw_okq (⟨"CardCupsModel", "takesNext", "()V"⟩, 65) := ⟨⟨by decide +kernel, by decide +kernel⟩, List.mem_of_getElem? (i := 1555) (by decide +kernel), List.mem_of_getElem? (i := 2014) (by decide +kernel), List.mem_of_getElem? (i := 2015) (by decide +kernel)⟩
theorem lw_p98 : lw_okq (⟨"CardCupsModel", "keepsBook", "(I)V"⟩, 65) := ⟨⟨by decide +kernel, by decide +kernel⟩, List.mem_of_getElem? (i := 1555) (by decide +kernel), List.mem_of_getElem? (i := 2018) (by decide +kernel), List.mem_of_getElem? (i := 2019) (by decide +kernel)⟩
theorem lw_p99 : lw_okq (⟨"CardCupsModel", "isLine", "(II)Z"⟩, 65) := ⟨⟨by decide +kernel, by decide +kernel⟩, List.mem_of_getElem? (i := 1555) (by decide +kernel), List.mem_of_getElem? (i := 2022) (by decide +kernel), List.mem_of_getElem? (i := 2023) (by decide +kernel)⟩
theorem lw_p100 : lw_okq (⟨"CardCupsModel", "isWarm", "(I)Z"⟩, 65) := ⟨⟨by decide +kernel, by decide +kernel⟩, List.mem_of_getElem? (i := 1555) (by decide +kernel), List.mem_of_getElem? (i := 2026) (by decide +kernel), List.mem_of_getElem? (i := 2027) (by decide +kernel)⟩
theorem lw_p101 : lw_okq (⟨"CardCupsModel", "habitOf", "(I)I"⟩, 65) := ⟨⟨by decide +kernel, by decide +kernel⟩, List.mem_of_getElem? (i := 1555) (by decide +kernel), List.mem_of_getElem? (i := 2030) (by decide +kernel), List.mem_of_getElem? (i := 2031) (by decide +kernel)⟩
theorem lw_p102 : lw_okq (⟨"CardCupsModel", "goesStep", "(III)V"⟩, 65) := ⟨⟨by decide +kernel, by decide +kernel⟩, List.mem_of_getElem? (i := 1555) (by decide +kernel), List.mem_of_getElem? (i := 2034) (by decide +kernel), List.mem_of_getElem? (i := 2035) (by decide +kernel)⟩
theorem lw_p103 : lw_okq (⟨"CardCupsModel", "findFacts", "(I)V"⟩, 65) := ⟨⟨by decide +kernel, by decide +kernel⟩, List.mem_of_getElem? (i := 1555) (by decide +kernel), List.mem_of_getElem? (i := 2038) (by decide +kernel), List.mem_of_getElem? (i := 2039) (by decide +kernel)⟩
theorem lw_p104 : lw_okq (⟨"CardCupsModel", "isSo", "(II)Z"⟩, 65) := ⟨⟨by decide +kernel, by decide +kernel⟩, List.mem_of_getElem? (i := 1555) (by decide +kernel), List.mem_of_getElem? (i := 2042) (by decide +kernel), List.mem_of_getElem? (i := 2043) (by decide +kernel)⟩
theorem lw_p105 : lw_okq (⟨"CardCupsModel", "does", "(IJI)V"⟩, 65) := ⟨⟨by decide +kernel, by decide +kernel⟩, List.mem_of_getElem? (i := 1555) (by decide +kernel), List.mem_of_getElem? (i := 2049) (by decide +kernel), List.mem_of_getElem? (i := 2050) (by decide +kernel)⟩
theorem lw_p106 : lw_okq (⟨"CardCupsModel", "takes", "(JI)V"⟩, 65) := ⟨⟨by decide +kernel, by decide +kernel⟩, List.mem_of_getElem? (i := 1555) (by decide +kernel), List.mem_of_getElem? (i := 2053) (by decide +kernel), List.mem_of_getElem? (i := 2054) (by decide +kernel)⟩
theorem lw_p107 : lw_okq (⟨"CardCupsModel", "starts", "(JI)V"⟩, 65) := ⟨⟨by decide +kernel, by decide +kernel⟩, List.mem_of_getElem? (i := 1555) (by decide +kernel), List.mem_of_getElem? (i := 2057) (by decide +kernel), List.mem_of_getElem? (i := 2058) (by decide +kernel)⟩
theorem lw_p108 : lw_okq (⟨"CardCupsModel", "ends", "(I)V"⟩, 65) := ⟨⟨by decide +kernel, by decide +kernel⟩, List.mem_of_getElem? (i := 1555) (by decide +kernel), List.mem_of_getElem? (i := 2061) (by decide +kernel), List.mem_of_getElem? (i := 2062) (by decide +kernel)⟩
theorem lw_p109 : lw_okq (⟨"CardCupsModel", "likelyOf", "(II)J"⟩, 65) := ⟨⟨by decide +kernel, by decide +kernel⟩, List.mem_of_getElem? (i := 1555) (by decide +kernel), List.mem_of_getElem? (i := 2065) (by decide +kernel), List.mem_of_getElem? (i := 2066) (by decide +kernel)⟩
theorem lw_p110 : lw_okq (⟨"CardCupsModel", "isOf", "(II)Z"⟩, 65) := ⟨⟨by decide +kernel, by decide +kernel⟩, List.mem_of_getElem? (i := 1555) (by decide +kernel), List.mem_of_getElem? (i := 2069) (by decide +kernel), List.mem_of_getElem? (i := 2070) (by decide +kernel)⟩
theorem lw_p111 : lw_okq (⟨"CardCupsModel", "partsOf", "(III)J"⟩, 65) := ⟨⟨by decide +kernel, by decide +kernel⟩, List.mem_of_getElem? (i := 1555) (by decide +kernel), List.mem_of_getElem? (i := 2081) (by decide +kernel), List.mem_of_getElem? (i := 2082) (by decide +kernel)⟩
def lw_privs_7 : List (MethodName × Nat) := [(⟨"CardCupsModel", "gives", "(IJ)V"⟩, 65), (⟨"CardCupsModel", "takesNext", "()V"⟩, 65), (⟨"CardCupsModel", "keepsBook", "(I)V"⟩, 65), (⟨"CardCupsModel", "isLine", "(II)Z"⟩, 65), (⟨"CardCupsModel", "isWarm", "(I)Z"⟩, 65), (⟨"CardCupsModel", "habitOf", "(I)I"⟩, 65), (⟨"CardCupsModel", "goesStep", "(III)V"⟩, 65), (⟨"CardCupsModel", "findFacts", "(I)V"⟩, 65), (⟨"CardCupsModel", "isSo", "(II)Z"⟩, 65), (⟨"CardCupsModel", "does", "(IJI)V"⟩, 65), (⟨"CardCupsModel", "takes", "(JI)V"⟩, 65), (⟨"CardCupsModel", "starts", "(JI)V"⟩, 65), (⟨"CardCupsModel", "ends", "(I)V"⟩, 65), (⟨"CardCupsModel", "likelyOf", "(II)J"⟩, 65), (⟨"CardCupsModel", "isOf", "(II)Z"⟩, 65), (⟨"CardCupsModel", "partsOf", "(III)J"⟩, 65)]
theorem lw_r7 : ∀ q ∈ lw_privs_7, lw_okq q := List.forall_mem_cons.mpr ⟨lw_p96, List.forall_mem_cons.mpr ⟨lw_p97, List.forall_mem_cons.mpr ⟨lw_p98, List.forall_mem_cons.mpr ⟨lw_p99, List.forall_mem_cons.mpr ⟨lw_p100, List.forall_mem_cons.mpr ⟨lw_p101, List.forall_mem_cons.mpr ⟨lw_p102, List.forall_mem_cons.mpr ⟨lw_p103, List.forall_mem_cons.mpr ⟨lw_p104, List.forall_mem_cons.mpr ⟨lw_p105, List.forall_mem_cons.mpr ⟨lw_p106, List.forall_mem_cons.mpr ⟨lw_p107, List.forall_mem_cons.mpr ⟨lw_p108, List.forall_mem_cons.mpr ⟨lw_p109, List.forall_mem_cons.mpr ⟨lw_p110, List.forall_mem_cons.mpr ⟨lw_p111, fun _ h => absurd h List.not_mem_nil⟩⟩⟩⟩⟩⟩⟩⟩⟩⟩⟩⟩⟩⟩⟩⟩
theorem lw_p112 : lw_okq (⟨"CardCupsModel", "isPart", "(I)Z"⟩, 65) := ⟨⟨by decide +kernel, by decide +kernel⟩, List.mem_of_getElem? (i := 1555) (by decide +kernel), List.mem_of_getElem? (i := 2100) (by decide +kernel), List.mem_of_getElem? (i := 2101) (by decide +kernel)⟩
theorem lw_p113 : lw_okq (⟨"CardCupsModel", "goesAll", "()V"⟩, 65) := ⟨⟨by decide +kernel, by decide +kernel⟩, List.mem_of_getElem? (i := 1555) (by decide +kernel), List.mem_of_getElem? (i := 2104) (by decide +kernel), List.mem_of_getElem? (i := 2105) (by decide +kernel)⟩
theorem lw_p114 : lw_okq (⟨"CardCupsModel", "costNow", "()J"⟩, 65) := ⟨⟨by decide +kernel, by decide +kernel⟩, List.mem_of_getElem? (i := 1555) (by decide +kernel), List.mem_of_getElem? (i := 2125) (by decide +kernel), List.mem_of_getElem? (i := 2126) (by decide +kernel)⟩
theorem lw_p115 : lw_okq (⟨"CardCupsModel", "all", "()J"⟩, 65) := ⟨⟨by decide +kernel, by decide +kernel⟩, List.mem_of_getElem? (i := 1555) (by decide +kernel), List.mem_of_getElem? (i := 2133) (by decide +kernel), List.mem_of_getElem? (i := 2134) (by decide +kernel)⟩
theorem lw_p116 : lw_okq (⟨"CardCupsModel", "goesGiven", "(I)V"⟩, 65) := ⟨⟨by decide +kernel, by decide +kernel⟩, List.mem_of_getElem? (i := 1555) (by decide +kernel), List.mem_of_getElem? (i := 2141) (by decide +kernel), List.mem_of_getElem? (i := 2142) (by decide +kernel)⟩
theorem lw_p117 : lw_okq (⟨"CardCupsModel", "share", "(JI)J"⟩, 65) := ⟨⟨by decide +kernel, by decide +kernel⟩, List.mem_of_getElem? (i := 1555) (by decide +kernel), List.mem_of_getElem? (i := 2145) (by decide +kernel), List.mem_of_getElem? (i := 2146) (by decide +kernel)⟩
theorem lw_p118 : lw_okq (⟨"CardCupsModel", "worthOf", "(I)J"⟩, 65) := ⟨⟨by decide +kernel, by decide +kernel⟩, List.mem_of_getElem? (i := 1555) (by decide +kernel), List.mem_of_getElem? (i := 2153) (by decide +kernel), List.mem_of_getElem? (i := 2154) (by decide +kernel)⟩
theorem lw_p119 : lw_okq (⟨"CardCupsModel", "takeCost", "(J)J"⟩, 65) := ⟨⟨by decide +kernel, by decide +kernel⟩, List.mem_of_getElem? (i := 1555) (by decide +kernel), List.mem_of_getElem? (i := 2157) (by decide +kernel), List.mem_of_getElem? (i := 2158) (by decide +kernel)⟩
theorem lw_p120 : lw_okq (⟨"CardCupsModel", "trueNow", "()J"⟩, 65) := ⟨⟨by decide +kernel, by decide +kernel⟩, List.mem_of_getElem? (i := 1555) (by decide +kernel), List.mem_of_getElem? (i := 2173) (by decide +kernel), List.mem_of_getElem? (i := 2174) (by decide +kernel)⟩
theorem lw_p121 : lw_okq (⟨"CardCupsModel", "leastWithout", "(Z)I"⟩, 65) := ⟨⟨by decide +kernel, by decide +kernel⟩, List.mem_of_getElem? (i := 1555) (by decide +kernel), List.mem_of_getElem? (i := 2181) (by decide +kernel), List.mem_of_getElem? (i := 2182) (by decide +kernel)⟩
theorem lw_p122 : lw_okq (⟨"CardCupsModel", "dayGoes", "(II)V"⟩, 65) := ⟨⟨by decide +kernel, by decide +kernel⟩, List.mem_of_getElem? (i := 1555) (by decide +kernel), List.mem_of_getElem? (i := 2221) (by decide +kernel), List.mem_of_getElem? (i := 2222) (by decide +kernel)⟩
theorem lw_p123 : lw_okq (⟨"CardCupsModel", "draws", "(I)I"⟩, 65) := ⟨⟨by decide +kernel, by decide +kernel⟩, List.mem_of_getElem? (i := 1555) (by decide +kernel), List.mem_of_getElem? (i := 2225) (by decide +kernel), List.mem_of_getElem? (i := 2226) (by decide +kernel)⟩
theorem lw_p124 : lw_okq (⟨"CardCupsModel", "dayDoes", "(II)V"⟩, 65) := ⟨⟨by decide +kernel, by decide +kernel⟩, List.mem_of_getElem? (i := 1555) (by decide +kernel), List.mem_of_getElem? (i := 2230) (by decide +kernel), List.mem_of_getElem? (i := 2231) (by decide +kernel)⟩
theorem lw_p125 : lw_okq (⟨"CardCupsModel", "keepsVisits", "()V"⟩, 65) := ⟨⟨by decide +kernel, by decide +kernel⟩, List.mem_of_getElem? (i := 1555) (by decide +kernel), List.mem_of_getElem? (i := 2242) (by decide +kernel), List.mem_of_getElem? (i := 2243) (by decide +kernel)⟩
theorem lw_p126 : lw_okq (⟨"CardCupsModel", "leaves", "(I)V"⟩, 65) := ⟨⟨by decide +kernel, by decide +kernel⟩, List.mem_of_getElem? (i := 1555) (by decide +kernel), List.mem_of_getElem? (i := 2250) (by decide +kernel), List.mem_of_getElem? (i := 2251) (by decide +kernel)⟩
theorem lw_p127 : lw_okq (⟨"CardCupsModel", "keepsAll", "(IZ)V"⟩, 65) := ⟨⟨by decide +kernel, by decide +kernel⟩, List.mem_of_getElem? (i := 1555) (by decide +kernel), List.mem_of_getElem? (i := 2270) (by decide +kernel), List.mem_of_getElem? (i := 2271) (by decide +kernel)⟩
def lw_privs_8 : List (MethodName × Nat) := [(⟨"CardCupsModel", "isPart", "(I)Z"⟩, 65), (⟨"CardCupsModel", "goesAll", "()V"⟩, 65), (⟨"CardCupsModel", "costNow", "()J"⟩, 65), (⟨"CardCupsModel", "all", "()J"⟩, 65), (⟨"CardCupsModel", "goesGiven", "(I)V"⟩, 65), (⟨"CardCupsModel", "share", "(JI)J"⟩, 65), (⟨"CardCupsModel", "worthOf", "(I)J"⟩, 65), (⟨"CardCupsModel", "takeCost", "(J)J"⟩, 65), (⟨"CardCupsModel", "trueNow", "()J"⟩, 65), (⟨"CardCupsModel", "leastWithout", "(Z)I"⟩, 65), (⟨"CardCupsModel", "dayGoes", "(II)V"⟩, 65), (⟨"CardCupsModel", "draws", "(I)I"⟩, 65), (⟨"CardCupsModel", "dayDoes", "(II)V"⟩, 65), (⟨"CardCupsModel", "keepsVisits", "()V"⟩, 65), (⟨"CardCupsModel", "leaves", "(I)V"⟩, 65), (⟨"CardCupsModel", "keepsAll", "(IZ)V"⟩, 65)]
theorem lw_r8 : ∀ q ∈ lw_privs_8, lw_okq q := List.forall_mem_cons.mpr ⟨lw_p112, List.forall_mem_cons.mpr ⟨lw_p113, List.forall_mem_cons.mpr ⟨lw_p114, List.forall_mem_cons.mpr ⟨lw_p115, List.forall_mem_cons.mpr ⟨lw_p116, List.forall_mem_cons.mpr ⟨lw_p117, List.forall_mem_cons.mpr ⟨lw_p118, List.forall_mem_cons.mpr ⟨lw_p119, List.forall_mem_cons.mpr ⟨lw_p120, List.forall_mem_cons.mpr ⟨lw_p121, List.forall_mem_cons.mpr ⟨lw_p122, List.forall_mem_cons.mpr ⟨lw_p123, List.forall_mem_cons.mpr ⟨lw_p124, List.forall_mem_cons.mpr ⟨lw_p125, List.forall_mem_cons.mpr ⟨lw_p126, List.forall_mem_cons.mpr ⟨lw_p127, fun _ h => absurd h List.not_mem_nil⟩⟩⟩⟩⟩⟩⟩⟩⟩⟩⟩⟩⟩⟩⟩⟩
theorem lw_p128 : lw_okq (⟨"CardCupsModel", "keepsRow", "(I[IIZ)I"⟩, 65) := ⟨⟨by decide +kernel, by decide +kernel⟩, List.mem_of_getElem? (i := 1555) (by decide +kernel), List.mem_of_getElem? (i := 2274) (by decide +kernel), List.mem_of_getElem? (i := 2275) (by decide +kernel)⟩
def lw_privs_9 : List (MethodName × Nat) := [(⟨"CardCupsModel", "keepsRow", "(I[IIZ)I"⟩, 65)]
theorem lw_r9 : ∀ q ∈ lw_privs_9, lw_okq q := List.forall_mem_cons.mpr ⟨lw_p128, fun _ h => absurd h List.not_mem_nil⟩
def lw_privs : List (MethodName × Nat) := lw_privs_1 ++ (lw_privs_2 ++ (lw_privs_3 ++ (lw_privs_4 ++ (lw_privs_5 ++ (lw_privs_6 ++ (lw_privs_7 ++ (lw_privs_8 ++ (lw_privs_9))))))))
def lw_tbl : List Cond := k2_sels lw_privs ++ tables_1
theorem lw_privs_ok : ∀ q ∈ lw_privs, lw_okq q := by
  show ∀ q ∈ lw_privs_1 ++ (lw_privs_2 ++ (lw_privs_3 ++ (lw_privs_4 ++ (lw_privs_5 ++ (lw_privs_6 ++ (lw_privs_7 ++ (lw_privs_8 ++ (lw_privs_9)))))))), lw_okq q
  exact List.forall_mem_append.mpr ⟨lw_r1, List.forall_mem_append.mpr ⟨lw_r2, List.forall_mem_append.mpr ⟨lw_r3, List.forall_mem_append.mpr ⟨lw_r4, List.forall_mem_append.mpr ⟨lw_r5, List.forall_mem_append.mpr ⟨lw_r6, List.forall_mem_append.mpr ⟨lw_r7, List.forall_mem_append.mpr ⟨lw_r8, lw_r9⟩⟩⟩⟩⟩⟩⟩⟩

/-- an array class over arrays is there (the printed laws speak of it without saying it) -/
def va_AOA (t : FieldType) (U : State) : Prop := (Cond.arrayOver (.array t)).before #[] U = true
theorem va_AOA.use {t : FieldType} {A : Array Value} {U : State} (h : va_AOA t U) : (Cond.arrayOver (.array t)).before A U = true := h
theorem va_AOA.of {t : FieldType} {A : Array Value} {U : State} (h : (Cond.arrayOver (.array t)).before A U = true) : va_AOA t U := h
end
section
/-! ===== BEGIN words of one list among another's, by their places ===== -/
theorem goodIn_r {big : List Cond} (ws : List Cond) (ps : List Nat) (hp : ws = ps.filterMap (fun i => big[i]?)) (h : ws.all goodWord = true) : GoodIn big ws := by
  intro w hw
  have h1 := List.all_eq_true.mp h w hw
  rw [hp] at hw
  obtain ⟨i, -, hi⟩ := List.mem_filterMap.mp hw
  have hm : w ∈ big := by first | exact List.mem_of_getElem? hi | exact List.getElem?_mem hi
  exact ⟨hm, good_of_word h1⟩
theorem goodIn_app {big a b : List Cond} (ha : GoodIn big a) (hb : GoodIn big b) : GoodIn big (a ++ b) := fun w h => (List.mem_append.mp h).elim (ha w) (hb w)
theorem goodIn_ca {big a b : List Cond} {c : Cond} (ha : GoodIn big (c :: a)) (hb : GoodIn big b) : GoodIn big (c :: (a ++ b)) := fun w h => (List.mem_cons.mp h).elim (fun e => ha w (List.mem_cons.mpr (Or.inl e))) (fun h => (List.mem_append.mp h).elim (fun h => ha w (List.mem_cons.mpr (Or.inr h))) (hb w))
theorem goodIn_sub {big ws : List Cond} (hm : ∀ w ∈ ws, w ∈ big) (h : ws.all goodWord = true) : GoodIn big ws := fun w hw => ⟨hm w hw, good_of_word (List.all_eq_true.mp h w hw)⟩
/-! ===== END ===== -/

/-! ===== BEGIN new T[n][m]: the outer array a place, the inner ones among the pooled ===== -/
/-- f, but v at every address of l -/
def vr_up {α : Type} (f : Nat → α) (l : List Nat) (v : α) : Nat → α := fun a => if a ∈ l then v else f a
theorem vr_up_in {α : Type} {f : Nat → α} {l : List Nat} {v : α} {a : Nat} (h : a ∈ l) : vr_up f l v a = v := if_pos h
theorem vr_up_ne {α : Type} {f : Nat → α} {l : List Nat} {v : α} {a : Nat} (h : a ∉ l) : vr_up f l v a = f a := if_neg h
theorem vr_rows {L l : List Nat} {f : Nat → va_E} {e : va_E} (h : ∀ a, a ∈ l → a ∉ L) : va_pl L f ++ l.map (fun a => (a, e)) = va_pl (L ++ l) (vr_up f l e) := by
  unfold va_pl
  rw [List.map_append]
  congr 1
  · apply List.map_congr_left
    intro a ha
    rw [vr_up_ne (fun q => h a q ha)]
  · apply List.map_congr_left
    intro a ha
    rw [vr_up_in ha]
theorem vr_lay {X rows : va_W} {x : Nat × va_E} {pl : va_W} {D : va_G} {cl : List vw_C} {H : Heap} (hP : va_P D cl (((X ++ pl) ++ [x]) ++ rows) H) : va_P D cl ((X ++ [x]) ++ (pl ++ rows)) H := by
  rw [List.append_assoc (X ++ pl)] at hP
  have h := va_P.swap hP
  rw [← List.append_assoc X] at h
  have h2 := va_P.swap h
  rw [List.append_assoc (X ++ [x])] at h2
  exact h2
theorem vr_layD {X rows : va_W} {x : Nat × va_E} {pl : va_W} {A : Nat → Prop} (hD : va_D A (((X ++ pl) ++ [x]) ++ rows)) : va_D A ((X ++ [x]) ++ (pl ++ rows)) := by
  rw [List.append_assoc (X ++ pl)] at hD
  have h := va_D.swap hD
  rw [← List.append_assoc X] at h
  have h2 := va_D.swap h
  rw [List.append_assoc (X ++ [x])] at h2
  exact h2
theorem vr_outer (c : ClassId) (N h0 : Nat) : ∀ i : Nat, Jvm.Free.Multi.outerC c N h0 i = arrV c N (fun j => va_rf (if j < i then some (h0 + 1 + j) else none))
  | 0 => by
    show ({ cls := c, slots := Array.replicate N .null, vm := .none } : Cell) = _
    rw [arrV_new]
    refine congrArg (arrV c N) (funext fun j => ?_)
    simp [va_rf]
  | i + 1 => by
    show (Jvm.Free.Multi.outerC c N h0 i).setSlot i (.ref (h0 + 1 + i)) = _
    rw [vr_outer c N h0 i, arrV_store]
    refine congrArg (arrV c N) (funext fun j => ?_)
    by_cases e : j = i
    · subst e
      simp [updV, va_rf]
    · by_cases h : j < i
      · simp [updV, e, h, Nat.lt_succ_of_lt h]
      · simp [updV, e, h, show ¬ j < i + 1 by omega]
section VGM
variable {p : Program} {l : Launch} {e : Env} {R : Room} {s : State} {m : MethodId} {args : Array Value} {below : List Frame} {meth : Method} {c : Code} {H : Heap} {locs : List Loc} {cells slots : Nat} {Q : State → Prop}
variable {cc : ByteArray} {pc : Nat} {ls : Array Slot} {rest : List Value} {D : va_G} {cl : List vw_C} {A : Nat → Prop} {a : Nat} {tys : List (ClassId × FieldType)} {ws : va_W} {H0 : Heap}
theorem va_mna {X : va_W} {L : List Nat} {f : Nat → va_E} {cc : ByteArray} (hexec : p.tables.exec = Jvm.exec) (hb : c.code = cc) {own : String} {index : Nat} {ty : FieldType} {cy : ClassId} (hown : s.vm.findClass own = some m.cls) (hclink : (Cond.classLink own index ("[" ++ (FieldType.array ty).toString)).before args s = true) (hover : va_AOA ty s) (harr : (Cond.arrayClass ty).before args s = true) (hcy : s.vm.findClass (FieldType.array ty).toString = some cy)
    (hK : va_K D cl tys s) (hP : va_P D cl (X ++ va_pl L f) H) (hD : va_D A (X ++ va_pl L f)) (hS : va_S A H0 H locs) (hA : ∀ q, H0.size ≤ q → A q) {n k : Int32} {N' K' : Nat} {z : vp_A} (hn : ¬ n < 0) (hk : ¬ k < 0) (hN : n.toNatClampNeg = N') (hM : k.toNatClampNeg = K')
    (hb1 : N' * 4 ≤ 536870912) (hb2 : K' * componentBytes ty ≤ 536870912) (hb3 : K' ≤ 536870912) (hdf : fits ty (defaultValue ty) = true) (hdd : (defaultValue ty).isDefault = true) (hcells : cells + (1 + N') ≤ R.cells) (hslots : slots + (N' + N' * K') ≤ R.slots) (hz : ∀ c : ClassId, Jvm.Free.Multi.innerC c K' (defaultValue ty) = vp_cell c z) (hdg : decode cc pc = .ok (.multianewarray index 2, 4))
    (kk : ∀ (q : Nat) (r : Nat → Nat) (cA : ClassId) (H1 : Heap), (∀ i j : Nat, i < N' → j < N' → r i = r j → i = j) → (∀ i : Nat, i < N' → r i ∉ L) → va_K D cl (tys ++ [(cA, .array ty)]) s →
      va_P D cl ((X ++ [(q, .inl (cA, N', .inr (.inr (.inr (.inr (fun i => if i < N' then some (r i) else none))))))]) ++ va_pl (L ++ (List.range N').map r) (vr_up f ((List.range N').map r) (.inl (cy, z)))) H1 → va_D A ((X ++ [(q, .inl (cA, N', .inr (.inr (.inr (.inr (fun i => if i < N' then some (r i) else none))))))]) ++ va_pl (L ++ (List.range N').map r) (vr_up f ((List.range N').map r) (.inl (cy, z)))) → va_S A H0 H1 locs →
      W p l e R s m args below meth c H1 locs (cells + 1 + N') (slots + N' + N' * K') Q (F0 m (pc + 4) ls (.ref q :: rest))) : W p l e R s m args below meth c H locs cells slots Q (F0 m pc ls (.int k :: .int n :: rest)) := by
  subst hN
  subst hM
  intro T hT Xs
  obtain ⟨vm₁, cA, comp, -, fA, fC, hO, -, X', step⟩ := Xs.multianewarray2F hexec hown hclink (va_AOA.use hover) harr (g := F0 m pc ls (.int k :: .int n :: rest)) rfl (by rw [hb]; exact hdg) rfl hn hk hb1 hb2 hb3 hdf hdd hcells hslots
  have ec : some cy = some comp := hcy.symm.trans fC
  cases ec
  generalize hF : Jvm.Free.Multi.fill (T.setVm vm₁) cA cy n.toNatClampNeg k.toNatClampNeg (defaultValue ty) n.toNatClampNeg = F at X' step
  have hTh : (T.setVm vm₁).heap = H := hT
  obtain ⟨f1, f2, -, -⟩ := Jvm.Free.Multi.fill_facts (T.setVm vm₁) cA cy n.toNatClampNeg k.toNatClampNeg (defaultValue ty) n.toNatClampNeg
  rw [hF, hTh] at f1 f2
  have hold : ∀ x : Nat, x < H.size → F.heap[x]? = H[x]? := fun x hx => by
    have := Jvm.Free.Multi.fill_old (T.setVm vm₁) cA cy n.toNatClampNeg k.toNatClampNeg (defaultValue ty) (a := x) (by rw [hTh]; exact hx) n.toNatClampNeg
    rw [hF, hTh] at this
    exact this
  have hrow : ∀ j : Nat, j < n.toNatClampNeg → F.heap[H.size + 1 + j]? = some (vp_cell cy z) := fun j hj => by
    have := Jvm.Free.Multi.fill_inner (T.setVm vm₁) cA cy n.toNatClampNeg k.toNatClampNeg (defaultValue ty) n.toNatClampNeg j hj
    rw [hF, hTh, hz] at this
    exact this
  have hout : Jvm.Free.Multi.outerC cA n.toNatClampNeg H.size n.toNatClampNeg = vp_cell cA (n.toNatClampNeg, .inr (.inr (.inr (.inr (fun i => if i < n.toNatClampNeg then some (H.size + 1 + i) else none))))) := by
    rw [vp_cell_q]
    exact vr_outer cA n.toNatClampNeg H.size n.toNatClampNeg
  rw [hout] at f2
  have hlt : ∀ a, a ∈ L → a < H.size := fun a ha => by
    obtain ⟨k9, hk9⟩ := va_pl_get (X := X) (f := f) ha
    exact (hP k9 _ hk9).lt
  have hnl : ∀ i : Nat, i < n.toNatClampNeg → H.size + 1 + i ∉ L := fun i _ h => by
    have := hlt _ h
    omega
  have hnm : ∀ a, a ∈ (List.range n.toNatClampNeg).map (fun i => H.size + 1 + i) → a ∉ L := fun a ha h => by
    obtain ⟨i, -, rfl⟩ := List.mem_map.mp ha
    have := hlt _ h
    omega
  have hP0 : va_P D cl (X ++ va_pl L f) F.heap := hP.kept (fun k9 x hx => hold x.1 ((hP k9 x hx).lt))
  have hP1 : va_P D cl ((X ++ va_pl L f) ++ [(H.size, .inl (cA, n.toNatClampNeg, .inr (.inr (.inr (.inr (fun i => if i < n.toNatClampNeg then some (H.size + 1 + i) else none))))))]) F.heap := hP0.app (fun k9 x hx => by
    have h0 : k9 < 1 := (List.getElem?_eq_some_iff.mp hx).1
    rw [show k9 = 0 by omega] at hx
    cases hx
    exact f2)
  have hP2 : va_P D cl (((X ++ va_pl L f) ++ [(H.size, .inl (cA, n.toNatClampNeg, .inr (.inr (.inr (.inr (fun i => if i < n.toNatClampNeg then some (H.size + 1 + i) else none))))))]) ++ ((List.range n.toNatClampNeg).map (fun i => H.size + 1 + i)).map (fun a => (a, .inl (cy, z)))) F.heap := hP1.app (fun k9 x hx => by
    obtain ⟨a, ha, rfl⟩ := List.mem_map.mp (List.mem_of_getElem? hx)
    obtain ⟨i, hi, rfl⟩ := List.mem_map.mp ha
    exact hrow i (List.mem_range.mp hi))
  have hD2 : va_D A (((X ++ va_pl L f) ++ [(H.size, .inl (cA, n.toNatClampNeg, .inr (.inr (.inr (.inr (fun i => if i < n.toNatClampNeg then some (H.size + 1 + i) else none))))))]) ++ ((List.range n.toNatClampNeg).map (fun i => H.size + 1 + i)).map (fun a => (a, .inl (cy, z)))) := by
    have hD1 := hD.push (e := .inl (cA, n.toNatClampNeg, .inr (.inr (.inr (.inr (fun i => if i < n.toNatClampNeg then some (H.size + 1 + i) else none)))))) hP rfl (hA _ hS.1)
    generalize hW1 : (X ++ va_pl L f) ++ [(H.size, .inl (cA, n.toNatClampNeg, .inr (.inr (.inr (.inr (fun i => if i < n.toNatClampNeg then some (H.size + 1 + i) else none))))))] = W1 at hD1 hP1 ⊢
    have hle : ∀ (k9 : Nat) (x : Nat × va_E), W1[k9]? = some x → x.1 ≤ H.size := fun k9 x hx => by
      rw [← hW1] at hx
      by_cases hl : k9 < (X ++ va_pl L f).length
      · rw [List.getElem?_append_left hl] at hx
        exact Nat.le_of_lt ((hP k9 x hx).lt)
      · rw [List.getElem?_append_right (by omega)] at hx
        have h0 : k9 - (X ++ va_pl L f).length < 1 := (List.getElem?_eq_some_iff.mp hx).1
        rw [show k9 - (X ++ va_pl L f).length = 0 by omega] at hx
        cases hx
        exact Nat.le_refl _
    have hr : ∀ (k9 : Nat) (x : Nat × va_E), (((List.range n.toNatClampNeg).map (fun i => H.size + 1 + i)).map (fun a => ((a, .inl (cy, z)) : Nat × va_E)))[k9]? = some x → x.1 = H.size + 1 + k9 := fun k9 x hx => by
      rw [List.getElem?_map, List.getElem?_map] at hx
      by_cases h9 : k9 < n.toNatClampNeg
      · rw [List.getElem?_range h9] at hx
        cases hx
        rfl
      · have hn0 : (List.range n.toNatClampNeg)[k9]? = none := List.getElem?_eq_none (by rw [List.length_range]; omega)
        rw [hn0] at hx
        cases hx
    refine ⟨fun i j x y hi hj hxy => ?_, fun k9 x hx => ?_⟩
    · by_cases h1 : i < W1.length <;> by_cases h2 : j < W1.length
      · rw [List.getElem?_append_left h1] at hi
        rw [List.getElem?_append_left h2] at hj
        exact hD1.1 i j x y hi hj hxy
      · rw [List.getElem?_append_left h1] at hi
        rw [List.getElem?_append_right (by omega)] at hj
        have := hle _ _ hi
        have := hr _ _ hj
        omega
      · rw [List.getElem?_append_right (by omega)] at hi
        rw [List.getElem?_append_left h2] at hj
        have := hle _ _ hj
        have := hr _ _ hi
        omega
      · rw [List.getElem?_append_right (by omega)] at hi hj
        have := hr _ _ hi
        have := hr _ _ hj
        omega
    · by_cases h1 : k9 < W1.length
      · rw [List.getElem?_append_left h1] at hx
        exact hD1.2 k9 x hx
      · rw [List.getElem?_append_right (by omega)] at hx
        have := hr _ _ hx
        exact hA _ (by have := hS.1; omega)
  have hAr : ArrOfT s cA (.array ty) := fun N9 z9 => by
    obtain ⟨-, k9, hk9, cm9, hkk9⟩ := (hO 0 0 0).1
    exact ⟨(fun q hq => by cases hq), k9, hk9, cm9, hkk9⟩
  have hK2 : va_K D cl (tys ++ [(cA, .array ty)]) s := ⟨hK.1, fun k9 x hx => by
    by_cases hl : k9 < tys.length
    · rw [List.getElem?_append_left hl] at hx
      exact hK.2 k9 x hx
    · rw [List.getElem?_append_right (by omega)] at hx
      have h0 : k9 - tys.length < 1 := (List.getElem?_eq_some_iff.mp hx).1
      rw [show k9 - tys.length = 0 by omega] at hx
      cases hx
      exact ⟨hAr, fA⟩⟩
  obtain ⟨t, a1, b1⟩ := kk H.size (fun i => H.size + 1 + i) cA F.heap (fun i j _ _ h => by have h9 : H.size + 1 + i = H.size + 1 + j := h; omega) hnl hK2 (by rw [← vr_rows hnm]; exact vr_lay hP2) (by rw [← vr_rows hnm]; exact vr_layD hD2) ⟨by rw [f1]; have := hS.1; omega, fun x h1 h2 => (hold x (Nat.lt_of_lt_of_le h1 hS.1)).trans (hS.2.1 x h1 h2), hS.2.2⟩ F rfl X'
  refine ⟨t, step t ?_, b1⟩
  have e : T.heap.size = H.size := by rw [hT]
  rw [e]
  exact a1
end VGM
/-! ===== END ===== -/

/-! ===== BEGIN exceptions that leave a method, and their catching by the caller (launches without stack traces) ===== -/
section VXA
/-! The laws vx_back, vx_callV, vx_callS, vx_callSW, vx_throw0, vx_throwS follow proofs of the library, with one case more: JvmDerived/Free/Laws.lean (Back.of_free), Shelf42/LK1.lean (callV, callS), Shelf/KitTraced.lean (throwNew0V, throwNewS). -/
/-- where a method has thrown q: the class by its name, the cell, what was written, the world -/
def vx_T (XC : String → State → State → Prop) (st : State) (q : Addr) (t : State) (mc ms : Nat) (free : Addr → Prop) : Prop :=
  ∃ (E : String) (ce : Cell) (L : List Loc), XC E st t ∧ t.heap[q]? = some ce ∧ ce.vm = .none ∧ st.vm.findClass E = some ce.cls ∧ st.WarmedH t.vm ∧ st.sameButNew ({ t with vm := st.vm } : State) L mc ms ∧ ∀ z ∈ L, free z.base
def vx_Q (Qc : Array Value → State → Outcome → State → Prop) (XC : String → State → State → Prop) (mc ms : Nat) (free : Addr → Prop) : Array Value → State → Outcome → State → Prop := fun a st o t =>
  (Qc a st o t ∧ ∃ L, FrameEnd st o t L mc ms ∧ ∀ q ∈ L, free q.base) ∨ ∃ q, o = .threw q ∧ vx_T XC st q t mc ms free
/-- a callee that returns or throws -/
def vx_Met (l : Launch) (y : MethodName) (ws : List Cond) (rm : Room) (Pc : Array Value → State → Prop) (Qc : Array Value → State → Outcome → State → Prop) (XC : String → State → State → Prop) (mc ms : Nat) (free : Addr → Prop) : Prop :=
  MetFree l y (headSpec ws rm) Pc (fun _ _ _ _ _ => True) (vx_Q Qc XC mc ms free)
def vx_Post (XC : String → State → State → Prop) (mc ms : Nat) (free : Addr → Prop) : Pt → Array Value → Addr → Pt → Prop := fun A a q B =>
  ∃ (g : JFrame) (mk : MethodId) (t : State) (L : List Loc) (E : String) (ce : Cell), B.U.heap = t.heap ∧ B.U.vm = t.vm ∧ XC E (A.U.calling g mk a) t ∧ t.heap[q]? = some ce ∧ ce.vm = .none ∧ A.U.vm.findClass E = some ce.cls ∧ B.locs = A.locs ++ L ∧ (∀ z ∈ L, free z.base) ∧ B.cells = A.cells + mc ∧ B.slots = A.slots + ms
def vx_Back (l : Launch) (R : Room) (p : Program) (e : Env) (below : List Frame) (s : State) (sargs : Array Value) (y : MethodName) (len W9 : Nat)
    (Pre : Pt → Array Value → Prop) (Post : Pt → Array Value → Option Value → Pt → Prop) (PostX : Pt → Array Value → Addr → Pt → Prop) : Prop :=
  ∀ (m : MethodId) (meth : Method) (c : Code) (A : Pt) (g : JFrame) (ig : Instr) (mk : MethodId) (a : Array Value),
    Stand p l e R s m sargs below meth c A.U A.locs A.cells A.slots → g.method = m → g.locals.size = c.maxLocals → decode c.code g.pc = .ok (ig, len) →
    2 * g.monitorRoom + (g.stack.map fun v => v.category).sum ≤ W9 → A.U.methodNamed? y = some mk → Pre A a →
    (∃ (v : Option Value) (B : Pt), Stand p l e R s m sargs below meth c B.U B.locs B.cells B.slots ∧ Post A a v B ∧
      Steps p.tables e below (doInvoke e (A.U.setTop g) [] mk a).1 (B.U.setTop { g with pc := g.pc + len, stack := v.toList ++ g.stack })) ∨
    (∃ (q : Addr) (B : Pt), Stand p l e R s m sargs below meth c B.U B.locs B.cells B.slots ∧ PostX A a q B ∧
      Steps p.tables e below (doInvoke e (A.U.setTop g) [] mk a).1 ((B.U.setTop g).pushFrame (.throwing q)))
section Payer
variable {l : Launch} {R : Room} {p : Program} {e : Env} {below : List Frame} {s : State} {sargs : Array Value} {y : MethodName} {len W9 : Nat}
theorem vx_back {ws : List Cond} {rm : Room} {Pc : Array Value → State → Prop} {Qc : Array Value → State → Outcome → State → Prop} {XC : String → State → State → Prop} {mc ms : Nat} {free : Addr → Prop} {bytes : ByteArray} {maxL : Nat} {ret : Option FieldType}
    (hM : vx_Met l y ws rm Pc Qc XC mc ms free) (hblind : FrameBlind Pc) (hrc : rm.cells = mc) (hrs : rm.slots = ms)
    (hframes : rm.frames + 1 ≤ R.frames) (hlocals : W9 + (maxL + 11) + rm.locals ≤ R.locals)
    (hws : ∀ w ∈ ws, ∀ a' U, s.WarmedH U.vm → w.before a' U = true) (hcode : Cond.code y bytes maxL ret ∈ ws) (hinit : ∀ a' U, s.WarmedH U.vm → (Cond.initialized y.cls).before a' U = true) :
    vx_Back l R p e below s sargs y len W9 (PreOf R mc ms Pc) (PostOf Qc mc ms free) (vx_Post XC mc ms free) := by
  intro m meth c A g ig mk a X hg hsize hdg hW hn hp
  have h1 : (headSpec ws rm).pre.before a A.U = true := atoms_intro fun w hw => hws w hw _ _ X.warmed
  have h2 : (Cond.code y bytes maxL ret).before a A.U = true := hws _ hcode _ _ X.warmed
  have h3 : (Cond.initialized y.cls).before a A.U = true := hinit _ _ X.warmed
  have h4 : A.cells + (headSpec ws rm).room.cells ≤ R.cells := by rw [show (headSpec ws rm).room.cells = mc from hrc]; exact hp.1
  have h5 : A.slots + (headSpec ws rm).room.slots ≤ R.slots := by rw [show (headSpec ws rm).room.slots = ms from hrs]; exact hp.2.1
  have hPc : Pc a (A.U.calling g mk a) := hblind _ _ _ _ hp.2.2
  obtain ⟨U, Ls, c0, s0⟩ := A
  dsimp only [Pt.U, Pt.locs, Pt.cells, Pt.slots] at h1 h2 h3 h4 h5 X hn hPc ⊢
  obtain ⟨methY, cY, hmY, hcY, -, hlY, -, -, -, -⟩ := Cond.code_spec hn h2
  obtain ⟨kY, hkY, -⟩ := className_of_methodNamed hn
  have hinitY : kY.init = .initialized := Cond.initialized_spec (findClass_of_methodNamed hn) hkY h3
  have h : At U g.method c below := by rw [hg]; exact X.here
  have hlocals9 : W9 + (maxL + 11) + (headSpec ws rm).room.locals ≤ R.locals := hlocals
  have happ : (headSpec ws rm).appliesLoose y e.platform (U.calling g mk a) = true :=
    Spec.appliesLoose_calling (g := g) h hdg hn hkY hinitY
      (X.room_calling (g := g) (R' := (headSpec ws rm).room) hsize hmY hcY hframes (by rw [hlY]; omega) h4 h5) h1
  obtain ⟨mid, hmid⟩ := h.above
  have hfr : (U.setTop g).frames = (.java g :: mid) ++ below := by rw [State.frames_setTop' g h.top, hmid]; rfl
  obtain ⟨o, s₂, hsteps, -, hend, hq⟩ := Steps.callFree hM p X.admits X.cas X.clock (acts := []) hfr happ hPc trivial
  have hq' : vx_Q Qc XC mc ms free a (U.calling g mk a) o s₂ := hq
  rw [State.frames_setTop' g h.top] at hend
  obtain ⟨g₀, hg0⟩ := Option.isSome_iff_exists.mp h.top
  obtain ⟨r, hr⟩ := State.topJava?_eq_some.mp hg0
  have hr' : (({ U with heap := s₂.heap, slotsUsed := s₂.slotsUsed } : State).setVm s₂.vm).frames = .java g₀ :: r := hr
  rcases hq' with ⟨hqc, L, hfe, hL⟩ | ⟨q, rfl, E, ce, L, hx, hce, hcv, hcl, hW₂, hsm, hL⟩
  · obtain ⟨⟨v, rfl⟩, hW₂, e2, q2, q3, q4, q5, q6⟩ := id hfe
    have e3 : s₂ = ({ (U.calling g mk a).setFrames s₂.frames with heap := s₂.heap, slotsUsed := s₂.slotsUsed } : State).setVm s₂.vm := by
      have : s₂ = ({ s₂ with vm := (U.calling g mk a).vm } : State).setVm s₂.vm := rfl
      rw [e2] at this
      exact this
    obtain ⟨c₂, i₂, len₂, hc₂, hd₂, hf₂⟩ := hend
    have hW' : U.WarmedH s₂.vm := hW₂
    have hcc : c₂ = c := by
      have h1 : s₂.code? g.method = U.code? g.method := by
        rw [State.code?_eq, State.code?_eq, hW'.alike.method?]
      exact Option.some.inj (hc₂.symm.trans (h1.trans h.code))
    subst hcc
    have hlen : len₂ = len := by rw [hdg] at hd₂; cases hd₂; rfl
    subst hlen
    have hs₂ : s₂ = (({ U with heap := s₂.heap, slotsUsed := s₂.slotsUsed } : State).setVm s₂.vm).setTop { g with pc := g.pc + len₂, stack := v.toList ++ g.stack } := by
      refine e3.trans ?_
      rw [hf₂, State.calling_eq h.top, State.setFrames_setFrames, State.setTop_of_frames _ hr', hr]
      rfl
    have hsame : U.sameButNew ({ U with heap := s₂.heap, slotsUsed := s₂.slotsUsed } : State) L mc ms := by
      refine ⟨?_, q2, q3, q4, q5, q6⟩
      obtain ⟨t, ht, -⟩ := State.frames_cons hr
      show ({ U with heap := s₂.heap, slotsUsed := s₂.slotsUsed } : State) = { U.setFrames U.frames with heap := s₂.heap, slotsUsed := s₂.slotsUsed }
      rw [State.setFrames_self ht]
    subst hg
    refine Or.inl ⟨v, ⟨(({ U with heap := s₂.heap, slotsUsed := s₂.slotsUsed } : State).setVm s₂.vm), Ls ++ L, c0 + mc, s0 + ms⟩,
      ⟨X.admits, X.cas, X.clock, X.frames, X.room, X.hears, X.method, X.code, (X.here.setHeapUsed s₂.heap s₂.slotsUsed).setVm hW'.alike, X.tail, State.WarmedH.trans X.warmed hW', X.limits, X.bytes, X.same.trans (hsame.setVm s.vm)⟩,
      ⟨g, mk, s₂, L, rfl, rfl, hqc, rfl, hL, rfl, rfl⟩, ?_⟩
    show Steps p.tables e below _ ((({ U with heap := s₂.heap, slotsUsed := s₂.slotsUsed } : State).setVm s₂.vm).setTop { g with pc := g.pc + len₂, stack := v.toList ++ g.stack })
    rw [← hs₂]
    exact hsteps
  · obtain ⟨e2, q2, q3, q4, q5, q6⟩ := id hsm
    have e3 : s₂ = ({ (U.calling g mk a).setFrames s₂.frames with heap := s₂.heap, slotsUsed := s₂.slotsUsed } : State).setVm s₂.vm := by
      have : s₂ = ({ s₂ with vm := (U.calling g mk a).vm } : State).setVm s₂.vm := rfl
      rw [e2] at this
      exact this
    have hf₂ : s₂.frames = .throwing q :: .java g :: U.frames.tail := hend
    have hW' : U.WarmedH s₂.vm := hW₂
    have hs₂ : s₂ = ((({ U with heap := s₂.heap, slotsUsed := s₂.slotsUsed } : State).setVm s₂.vm).setTop g).pushFrame (.throwing q) := by
      refine e3.trans ?_
      rw [hf₂, State.calling_eq h.top, State.setFrames_setFrames, State.pushFrame, State.frames_setTop _ hr', State.setTop_of_frames _ hr', State.setFrames_setFrames, hr]
      rfl
    have hsame : U.sameButNew ({ U with heap := s₂.heap, slotsUsed := s₂.slotsUsed } : State) L mc ms := by
      refine ⟨?_, q2, q3, q4, q5, q6⟩
      obtain ⟨t, ht, -⟩ := State.frames_cons hr
      show ({ U with heap := s₂.heap, slotsUsed := s₂.slotsUsed } : State) = { U.setFrames U.frames with heap := s₂.heap, slotsUsed := s₂.slotsUsed }
      rw [State.setFrames_self ht]
    subst hg
    refine Or.inr ⟨q, ⟨(({ U with heap := s₂.heap, slotsUsed := s₂.slotsUsed } : State).setVm s₂.vm), Ls ++ L, c0 + mc, s0 + ms⟩,
      ⟨X.admits, X.cas, X.clock, X.frames, X.room, X.hears, X.method, X.code, (X.here.setHeapUsed s₂.heap s₂.slotsUsed).setVm hW'.alike, X.tail, State.WarmedH.trans X.warmed hW', X.limits, X.bytes, X.same.trans (hsame.setVm s.vm)⟩,
      ⟨g, mk, s₂, L, E, ce, rfl, rfl, hx, hce, hcv, hcl, rfl, hL, rfl, rfl⟩, ?_⟩
    show Steps p.tables e below _ (((({ U with heap := s₂.heap, slotsUsed := s₂.slotsUsed } : State).setVm s₂.vm).setTop g).pushFrame (.throwing q))
    rw [← hs₂]
    exact hsteps
end Payer
section Calls
variable {p : Program} {l : Launch} {e : Env} {R : Room} {s : State} {m : MethodId} {args : Array Value} {below : List Frame} {meth : Method} {c : Code} {T : State} {locs : List Loc} {cells slots : Nat}
theorem vx_callV (X : Stand p l e R s m args below meth c T locs cells slots) (hexec : p.tables.exec = Jvm.exec) {own C : String} {index : Nat} {y : MethodName} {bytes : ByteArray} {maxL : Nat} {ret : Option FieldType}
    (hown : s.vm.findClass own = some m.cls) (hlink : (Cond.methodLink own index y).before args s = true) (hinst : (Cond.instanceMethod y).before args s = true) (hsel : (Cond.selects C y y).before args s = true)
    (hcode : (Cond.code y bytes maxL ret).before args s = true) (hy : y.cls ≠ "java/lang/invoke/MethodHandle" ∧ y.cls ≠ "java/lang/invoke/VarHandle")
    {W9 : Nat} {Pre : Pt → Array Value → Prop} {Post : Pt → Array Value → Option Value → Pt → Prop} {PostX : Pt → Array Value → Addr → Pt → Prop} (hK : vx_Back l R p e below s args y 3 W9 Pre Post PostX)
    {b : Addr} {cellB : Cell} (hcell : T.heap[b]? = some cellB) (hobj : cellB.vm.isStatics = false) (hcls : s.vm.findClass C = some cellB.cls)
    {g : JFrame} (hg : g.method = m) (hsize : g.locals.size = c.maxLocals) {argsL rest : List Value} (hlen : ∀ sig, parseMethodDescriptor y.desc = some sig → argsL.length = sig.parameters.length)
    (hstack : g.stack = argsL.reverse ++ .ref b :: rest) (hW : 2 * g.monitorRoom + (rest.map fun v => v.category).sum ≤ W9) (hdg : decode c.code g.pc = .ok (.invokevirtual index, 3))
    (hpre : ∀ vm₁, s.WarmedH vm₁ → Pre ⟨T.setVm vm₁, locs, cells, slots⟩ (Value.ref b :: argsL).toArray) :
    (∃ (v : Option Value) (vm₁ : Vm) (B : Pt), s.WarmedH vm₁ ∧ Stand p l e R s m args below meth c B.U B.locs B.cells B.slots ∧ Post ⟨T.setVm vm₁, locs, cells, slots⟩ (Value.ref b :: argsL).toArray v B ∧
      ∀ target, Steps p.tables e below (B.U.setTop { g with pc := g.pc + 3, stack := v.toList ++ rest }) target → Steps p.tables e below (T.setTop g) target) ∨
    (∃ (q : Addr) (vm₁ : Vm) (B : Pt), s.WarmedH vm₁ ∧ Stand p l e R s m args below meth c B.U B.locs B.cells B.slots ∧ PostX ⟨T.setVm vm₁, locs, cells, slots⟩ (Value.ref b :: argsL).toArray q B ∧
      Steps p.tables e below (T.setTop g) ((B.U.setTop { g with stack := rest }).pushFrame (.throwing q))) := by
  obtain ⟨mk, methM, hnamed, hmethM, hstM, habM⟩ := Cond.instanceMethod_spec hinst
  obtain ⟨methM', cM, hmethM', -, -, -, -, -, -, hsigM⟩ := Cond.code_spec hnamed hcode
  cases hmethM.symm.trans hmethM'
  obtain ⟨c2, r2, m2, q1, q2, q3, q4, kP, hkP, hkPi⟩ := Cond.selects_spec hsel
  cases hcls.symm.trans q1
  cases (State.methodFound?_of_named hnamed hy).symm.trans q2
  cases hnamed.symm.trans q3
  have hselP : selectMethod e.platform s.vm cellB.cls mk = .method mk := by rw [Launch.admits_selectMethod X.admits]; exact q4
  obtain ⟨vm₁, X₁, hstep₁⟩ := X.invokevirtual hexec hown hlink hnamed hmethM hstM hkP hkPi hy (a := b) (cell := cellB) hcell
    (fun z h => by rw [h] at hobj; cases hobj) hselP hmethM habM hkP hkPi (g := g) hg (argsL := argsL) (rest := rest) (hlen _ hsigM) hstack hdg
  rcases hK m meth c ⟨T.setVm vm₁, locs, cells, slots⟩ { g with stack := rest } (.invokevirtual index) mk (Value.ref b :: argsL).toArray X₁ hg hsize hdg hW (X₁.named hnamed) (hpre vm₁ X₁.warmed) with ⟨v, B, X', hpost, hsteps⟩ | ⟨q, B, X', hpost, hsteps⟩
  · exact Or.inl ⟨v, vm₁, B, X₁.warmed, X', hpost, fun target h => hstep₁ _ fun acts => by rw [doInvoke_state]; exact hsteps.trans h⟩
  · exact Or.inr ⟨q, vm₁, B, X₁.warmed, X', hpost, hstep₁ _ fun acts => by rw [doInvoke_state]; exact hsteps⟩
theorem vx_callS (X : Stand p l e R s m args below meth c T locs cells slots) (hexec : p.tables.exec = Jvm.exec) {own : String} {index : Nat} {y : MethodName} {bytes : ByteArray} {maxL : Nat} {ret : Option FieldType}
    (hown : s.vm.findClass own = some m.cls) (hlink : (Cond.methodLink own index y).before args s = true) (hstat : (Cond.static y).before args s = true) (hinit : (Cond.initialized y.cls).before args s = true)
    (hcode : (Cond.code y bytes maxL ret).before args s = true) (hy : y.cls ≠ "java/lang/invoke/MethodHandle" ∧ y.cls ≠ "java/lang/invoke/VarHandle")
    {W9 : Nat} {Pre : Pt → Array Value → Prop} {Post : Pt → Array Value → Option Value → Pt → Prop} {PostX : Pt → Array Value → Addr → Pt → Prop} (hK : vx_Back l R p e below s args y 3 W9 Pre Post PostX)
    {g : JFrame} (hg : g.method = m) (hsize : g.locals.size = c.maxLocals) {argsL rest : List Value} (hlen : ∀ sig, parseMethodDescriptor y.desc = some sig → argsL.length = sig.parameters.length)
    (hstack : g.stack = argsL.reverse ++ rest) (hW : 2 * g.monitorRoom + (rest.map fun v => v.category).sum ≤ W9) (hdg : decode c.code g.pc = .ok (.invokestatic index, 3))
    (hpre : ∀ vm₁, s.WarmedH vm₁ → Pre ⟨T.setVm vm₁, locs, cells, slots⟩ argsL.toArray) :
    (∃ (v : Option Value) (vm₁ : Vm) (B : Pt), s.WarmedH vm₁ ∧ Stand p l e R s m args below meth c B.U B.locs B.cells B.slots ∧ Post ⟨T.setVm vm₁, locs, cells, slots⟩ argsL.toArray v B ∧
      ∀ target, Steps p.tables e below (B.U.setTop { g with pc := g.pc + 3, stack := v.toList ++ rest }) target → Steps p.tables e below (T.setTop g) target) ∨
    (∃ (q : Addr) (vm₁ : Vm) (B : Pt), s.WarmedH vm₁ ∧ Stand p l e R s m args below meth c B.U B.locs B.cells B.slots ∧ PostX ⟨T.setVm vm₁, locs, cells, slots⟩ argsL.toArray q B ∧
      Steps p.tables e below (T.setTop g) ((B.U.setTop { g with stack := rest }).pushFrame (.throwing q))) := by
  obtain ⟨mk, hnamed⟩ := Cond.code_named hcode
  obtain ⟨methM, cM, hmethM, -, -, -, -, -, -, hsigM⟩ := Cond.code_spec hnamed hcode
  have hstatic : methM.isStatic = true := Cond.static_spec hnamed hmethM hstat
  obtain ⟨kP, hkP, -⟩ := className_of_methodNamed hnamed
  have hinitP : kP.init = .initialized := Cond.initialized_spec (findClass_of_methodNamed hnamed) hkP hinit
  obtain ⟨vm₁, X₁, hstep₁⟩ := X.invokestatic hexec hown hlink hnamed hmethM hstatic hkP hinitP hy (g := g) hg (argsL := argsL) (rest := rest) (hlen _ hsigM) hstack hdg
  rcases hK m meth c ⟨T.setVm vm₁, locs, cells, slots⟩ { g with stack := rest } (.invokestatic index) mk argsL.toArray X₁ hg hsize hdg hW (X₁.named hnamed) (hpre vm₁ X₁.warmed) with ⟨v, B, X', hpost, hsteps⟩ | ⟨q, B, X', hpost, hsteps⟩
  · exact Or.inl ⟨v, vm₁, B, X₁.warmed, X', hpost, fun target h => hstep₁ _ fun acts => by rw [doInvoke_state]; exact hsteps.trans h⟩
  · exact Or.inr ⟨q, vm₁, B, X₁.warmed, X', hpost, hstep₁ _ fun acts => by rw [doInvoke_state]; exact hsteps⟩
end Calls
theorem vx_cls {s : State} {T : State} {vm₁ : Vm} {E : String} {k : ClassId} (hW : s.WarmedH vm₁) (h : (T.setVm vm₁).vm.findClass E = some k) : s.vm.findClass E = some k := by
  have h1 : vm₁.findClass E = some k := h
  rw [hW.alike.findClass] at h1
  exact h1
/-- the method's frame g, with q thrown over it -/
def vx_W (p : Program) (l : Launch) (e : Env) (R : Room) (s : State) (m : MethodId) (args : Array Value) (below : List Frame) (meth : Method) (c : Code) (H : Heap) (locs : List Loc) (cells slots : Nat) (Q : State → Prop) (g : JFrame) (q : Addr) : Prop :=
  ∀ T : State, T.heap = H → Stand p l e R s m args below meth c T locs cells slots → ∃ t, Steps p.tables e below ((T.setTop g).pushFrame (.throwing q)) t ∧ Q t
def vx_Run (p : Program) (l : Launch) (e : Env) (R : Room) (s : State) (m : MethodId) (args : Array Value) (below : List Frame) (meth : Method) (c : Code) (H : Heap) (locs : List Loc) (cells slots mc ms : Nat) (g : JFrame) (rest : List Value) (Qa : State → Outcome → State → Prop) (XC : String → State → State → Prop) (free : Addr → Prop) : Prop :=
  ∀ T : State, T.heap = H → Stand p l e R s m args below meth c T locs cells slots →
    (∃ (v : Option Value) (st₀ t T' : State) (L : List Loc), st₀.heap = H ∧ Stand p l e R s m args below meth c T' (locs ++ L) (cells + mc) (slots + ms) ∧ (∀ q ∈ L, free q.base) ∧ T'.heap = t.heap ∧ T'.vm = t.vm ∧ Qa st₀ (.returned v) t ∧
      Goes p e below T g T' { g with pc := g.pc + 3, stack := v.toList ++ rest }) ∨
    (∃ (q : Addr) (st₀ t T' : State) (L : List Loc) (E : String) (ce : Cell), st₀.heap = H ∧ Stand p l e R s m args below meth c T' (locs ++ L) (cells + mc) (slots + ms) ∧ (∀ z ∈ L, free z.base) ∧ T'.heap = t.heap ∧ T'.vm = t.vm ∧ XC E st₀ t ∧ t.heap[q]? = some ce ∧ ce.vm = .none ∧ s.vm.findClass E = some ce.cls ∧
      Steps p.tables e below (T.setTop g) ((T'.setTop { g with stack := rest }).pushFrame (.throwing q)))
def vx_X {S : Type} (px : S → Prop) (B : String → S → State → Prop) (A : Nat → Prop) : String → State → State → Prop := fun E st t => ∃ u : S, px u ∧ B E u t ∧ va_F A st t
section Runs
variable {p : Program} {l : Launch} {e : Env} {R : Room} {s : State} {m : MethodId} {args : Array Value} {below : List Frame} {meth : Method} {c : Code} {H : Heap} {locs : List Loc} {cells slots : Nat}
variable {y : MethodName} {bytes cc : ByteArray} {maxL nL mc ms n index : Nat} {ret : Option FieldType} {ws : List Cond} {rm : Room} {Pc : Array Value → State → Prop} {Qc : Array Value → State → Outcome → State → Prop} {XC : String → State → State → Prop} {free : Addr → Prop} {Ts : List Cond} {own C : String} {b : Addr} {As rest : List Value} {g : JFrame}
theorem vx_callBack (cb : CallB R s args own index y bytes maxL ret ws rm mc ms n) (hM : vx_Met l y ws rm Pc Qc XC mc ms free) (hbl : FrameBlind Pc) : vx_Back l R p e below s args y 3 8 (PreOf R mc ms Pc) (PostOf Qc mc ms free) (vx_Post XC mc ms free) := by
  obtain ⟨hrc, hrs, hfr, hlo, hws, hcw, -, hini, -⟩ := cb
  exact vx_back (bytes := bytes) (maxL := maxL) (ret := ret) hM hbl hrc hrs hfr hlo hws hcw (fun a' U hW => word_at hW (Or.inl (by first | rfl | simp [Cond.onTables, Cond.keeps, Cond.steady])) hini)
theorem vx_runV (S : CallFix p m c cc nL s args Ts own) (hM : vx_Met l y ws rm Pc Qc XC mc ms free) (cw : CallW R s args own C index y bytes maxL ret ws rm mc ms n) (hp : PreV s H C b Pc As)
    (hg : g.method = m) (hn : As.length = n) (hsize : g.locals.size = nL) (hstack : g.stack = As.reverse ++ .ref b :: rest) (hW : 2 * g.monitorRoom + (rest.map fun v => v.category).sum ≤ 8) (hdg : decode cc g.pc = .ok (.invokevirtual index, 3)) (hf : cells + mc ≤ R.cells ∧ slots + ms ≤ R.slots) :
    vx_Run p l e R s m args below meth c H locs cells slots mc ms g rest (Qc (Value.ref b :: As).toArray) XC free := by
  have hK : vx_Back l R p e below s args y 3 8 (PreOf R mc ms Pc) (PostOf Qc mc ms free) (vx_Post XC mc ms free) := vx_callBack cw.1 hM hp.1
  obtain ⟨⟨-, -, -, -, -, -, hcode, -, hy, hlen, hl⟩, hin, hse⟩ := cw
  obtain ⟨hx, hb, hml, ho, -⟩ := S
  obtain ⟨-, ⟨cellB, hcB, hoB, hclB⟩, hPc⟩ := hp
  intro T hT X
  rcases vx_callV X hx (C := C) (bytes := bytes) (maxL := maxL) (ret := ret) ho hl hin hse hcode hy hK (by rw [hT]; exact hcB) hoB hclB hg (hsize.trans hml.symm) (argsL := As) (rest := rest) (fun sig h => hn.trans (hlen sig h)) hstack hW (by rw [hb]; exact hdg)
    (fun vm₁ hW₁ => ⟨hf.1, hf.2, hPc (T.setVm vm₁) hT hW₁⟩) with ⟨v, vm₁, ⟨U', l2, c2, s2⟩, hW₁, X', ⟨g', mk, t, L, e1, e2, hq, h1, hL, h2, h3⟩, st⟩ | ⟨q, vm₁, ⟨U', l2, c2, s2⟩, hW₁, X', ⟨g', mk, t, L, E, ce, e1, e2, hq, hce, hcv, hcl, h1, hL, h2, h3⟩, st⟩
  · dsimp only [Pt.U, Pt.locs, Pt.cells, Pt.slots] at X' e1 e2 h1 h2 h3 st
    subst h1; subst h2; subst h3
    exact Or.inl ⟨v, (T.setVm vm₁).calling g' mk (Value.ref b :: As).toArray, t, U', L, hT, X', hL, e1, e2, hq, st⟩
  · dsimp only [Pt.U, Pt.locs, Pt.cells, Pt.slots] at X' e1 e2 h1 h2 h3 st hcl
    subst h1; subst h2; subst h3
    exact Or.inr ⟨q, (T.setVm vm₁).calling g' mk (Value.ref b :: As).toArray, t, U', L, E, ce, hT, X', hL, e1, e2, hq, hce, hcv, vx_cls hW₁ hcl, st⟩
theorem vx_runS (S : CallFix p m c cc nL s args Ts own) (hM : vx_Met l y ws rm Pc Qc XC mc ms free) (cw : CallB R s args own index y bytes maxL ret ws rm mc ms n ∧ (Cond.static y).before args s = true) (hp : PreS s H Pc As)
    (hg : g.method = m) (hn : As.length = n) (hsize : g.locals.size = nL) (hstack : g.stack = As.reverse ++ rest) (hW : 2 * g.monitorRoom + (rest.map fun v => v.category).sum ≤ 8) (hdg : decode cc g.pc = .ok (.invokestatic index, 3)) (hf : cells + mc ≤ R.cells ∧ slots + ms ≤ R.slots) :
    vx_Run p l e R s m args below meth c H locs cells slots mc ms g rest (Qc As.toArray) XC free := by
  have hK : vx_Back l R p e below s args y 3 8 (PreOf R mc ms Pc) (PostOf Qc mc ms free) (vx_Post XC mc ms free) := vx_callBack cw.1 hM hp.1
  obtain ⟨⟨-, -, -, -, -, -, hcode, hini, hy, hlen, hl⟩, hstt⟩ := cw
  obtain ⟨hx, hb, hml, ho, -⟩ := S
  intro T hT X
  rcases vx_callS X hx (bytes := bytes) (maxL := maxL) (ret := ret) ho hl hstt hini hcode hy hK hg (hsize.trans hml.symm) (argsL := As) (rest := rest) (fun sig h => hn.trans (hlen sig h)) hstack hW (by rw [hb]; exact hdg)
    (fun vm₁ hW₁ => ⟨hf.1, hf.2, hp.2 (T.setVm vm₁) hT hW₁⟩) with ⟨v, vm₁, ⟨U', l2, c2, s2⟩, hW₁, X', ⟨g', mk, t, L, e1, e2, hq, h1, hL, h2, h3⟩, st⟩ | ⟨q, vm₁, ⟨U', l2, c2, s2⟩, hW₁, X', ⟨g', mk, t, L, E, ce, e1, e2, hq, hce, hcv, hcl, h1, hL, h2, h3⟩, st⟩
  · dsimp only [Pt.U, Pt.locs, Pt.cells, Pt.slots] at X' e1 e2 h1 h2 h3 st
    subst h1; subst h2; subst h3
    exact Or.inl ⟨v, (T.setVm vm₁).calling g' mk As.toArray, t, U', L, hT, X', hL, e1, e2, hq, st⟩
  · dsimp only [Pt.U, Pt.locs, Pt.cells, Pt.slots] at X' e1 e2 h1 h2 h3 st hcl
    subst h1; subst h2; subst h3
    exact Or.inr ⟨q, (T.setVm vm₁).calling g' mk As.toArray, t, U', L, E, ce, hT, X', hL, e1, e2, hq, hce, hcv, vx_cls hW₁ hcl, st⟩
end Runs
section Rows
variable {p : Program} {l : Launch} {e : Env} {R : Room} {s : State} {m : MethodId} {args : Array Value} {below : List Frame} {meth : Method} {c : Code} {H : Heap} {locs : List Loc} {cells slots : Nat} {Q : State → Prop}
variable {mc ms : Nat} {free : Addr → Prop} {A0 A1 : Nat → Prop} {H0 : Heap} {a : Array Value} {pc : Nat} {ls : Array Slot} {st0 rest : List Value}
theorem vx_keep {st₀ t T' : State} {L : List Loc} (h0 : st₀.heap = H) (e1 : T'.heap = t.heap) (hS : va_S A0 H0 H locs) (hA : ∀ q, q < H.size → A1 q → A0 q) (hf : ∀ q, free q → A0 q) (hL : ∀ q ∈ L, free q.base) (hF : va_F A1 st₀ t) :
    H.size ≤ T'.heap.size ∧ (∀ q : Nat, q < H.size → ¬ A1 q → T'.heap[q]? = H[q]?) ∧ va_S A0 H0 T'.heap (locs ++ L) := by
  obtain ⟨hz, hk⟩ := hF
  rw [h0] at hz hk
  exact ⟨by rw [e1]; exact hz, fun q h1 h2 => by rw [e1]; exact hk q h1 h2,
    ⟨Nat.le_trans hS.1 (by rw [e1]; exact hz), fun q h1 h2 => by rw [e1, hk q (Nat.lt_of_lt_of_le h1 hS.1) (fun z => h2 (hA q (Nat.lt_of_lt_of_le h1 hS.1) z))]; exact hS.2.1 q h1 h2, fun q hq => by
      rcases List.mem_append.mp hq with h | h
      · exact hS.2.2 q h
      · exact hf _ (hL q h)⟩⟩
theorem vx_calli {S SX : Type} {post : Int32 → S → Prop} {px : SX → Prop} {B : S → State → Prop} {BX : String → SX → State → Prop} {AX : Nat → Prop} (hr : vx_Run p l e R s m args below meth c H locs cells slots mc ms (F0 m pc ls st0) rest (va_Qi post B A1 a) (vx_X px BX AX) free) (hS : va_S A0 H0 H locs) (hA : ∀ q, q < H.size → A1 q → A0 q) (hf : ∀ q, free q → A0 q) (hAX : ∀ q, q < H.size → AX q → A0 q)
    (kx : ∀ (E : String) (ce : Cell) (q9 : Addr) (u : SX) (t : State) (H1 : Heap) (locs1 : List Loc), t.heap = H1 → s.vm.Alike t.vm → px u → BX E u t → H.size ≤ H1.size → (∀ q : Nat, q < H.size → ¬ AX q → H1[q]? = H[q]?) → va_S A0 H0 H1 locs1 → H1[q9]? = some ce → ce.vm = .none → s.vm.findClass E = some ce.cls → vx_W p l e R s m args below meth c H1 locs1 (cells + mc) (slots + ms) Q (F0 m pc ls rest) q9)
    (kk : ∀ (r : Int32) (u : S) (t : State) (H1 : Heap) (locs1 : List Loc), t.heap = H1 → s.vm.Alike t.vm → post r u → B u t → H.size ≤ H1.size → (∀ q : Nat, q < H.size → ¬ A1 q → H1[q]? = H[q]?) → va_S A0 H0 H1 locs1 → W p l e R s m args below meth c H1 locs1 (cells + mc) (slots + ms) Q (F0 m (pc + 3) ls (.int r :: rest))) : W p l e R s m args below meth c H locs cells slots Q (F0 m pc ls st0) := by
  intro T hT X
  rcases hr T hT X with ⟨v, st₀, t, T', L, h0, X', hL, e1, e2, ⟨⟨r, u, hv, hp, hb⟩, hF⟩, st⟩ | ⟨q, st₀, t, T', L, E, ce, h0, X', hL, e1, e2, ⟨u, hp, hb, hF⟩, hce, hcv, hcl, st⟩
  · cases hv
    obtain ⟨k1, k2, k3⟩ := vx_keep h0 e1 hS hA hf hL hF
    obtain ⟨t2, a1, b1⟩ := kk r u t T'.heap (locs ++ L) e1.symm (by rw [← e2]; exact X'.warmed.alike) hp hb k1 k2 k3 T' rfl X'
    exact ⟨t2, st t2 a1, b1⟩
  · obtain ⟨k1, k2, k3⟩ := vx_keep h0 e1 hS hAX hf hL hF
    obtain ⟨t2, a1, b1⟩ := kx E ce q u t T'.heap (locs ++ L) e1.symm (by rw [← e2]; exact X'.warmed.alike) hp hb k1 k2 k3 (by rw [e1]; exact hce) hcv hcl T' rfl X'
    exact ⟨t2, st.trans a1, b1⟩
theorem vx_calll {S SX : Type} {post : Int64 → S → Prop} {px : SX → Prop} {B : S → State → Prop} {BX : String → SX → State → Prop} {AX : Nat → Prop} (hr : vx_Run p l e R s m args below meth c H locs cells slots mc ms (F0 m pc ls st0) rest (va_Ql post B A1 a) (vx_X px BX AX) free) (hS : va_S A0 H0 H locs) (hA : ∀ q, q < H.size → A1 q → A0 q) (hf : ∀ q, free q → A0 q) (hAX : ∀ q, q < H.size → AX q → A0 q)
    (kx : ∀ (E : String) (ce : Cell) (q9 : Addr) (u : SX) (t : State) (H1 : Heap) (locs1 : List Loc), t.heap = H1 → s.vm.Alike t.vm → px u → BX E u t → H.size ≤ H1.size → (∀ q : Nat, q < H.size → ¬ AX q → H1[q]? = H[q]?) → va_S A0 H0 H1 locs1 → H1[q9]? = some ce → ce.vm = .none → s.vm.findClass E = some ce.cls → vx_W p l e R s m args below meth c H1 locs1 (cells + mc) (slots + ms) Q (F0 m pc ls rest) q9)
    (kk : ∀ (r : Int64) (u : S) (t : State) (H1 : Heap) (locs1 : List Loc), t.heap = H1 → s.vm.Alike t.vm → post r u → B u t → H.size ≤ H1.size → (∀ q : Nat, q < H.size → ¬ A1 q → H1[q]? = H[q]?) → va_S A0 H0 H1 locs1 → W p l e R s m args below meth c H1 locs1 (cells + mc) (slots + ms) Q (F0 m (pc + 3) ls (.long r :: rest))) : W p l e R s m args below meth c H locs cells slots Q (F0 m pc ls st0) := by
  intro T hT X
  rcases hr T hT X with ⟨v, st₀, t, T', L, h0, X', hL, e1, e2, ⟨⟨r, u, hv, hp, hb⟩, hF⟩, st⟩ | ⟨q, st₀, t, T', L, E, ce, h0, X', hL, e1, e2, ⟨u, hp, hb, hF⟩, hce, hcv, hcl, st⟩
  · cases hv
    obtain ⟨k1, k2, k3⟩ := vx_keep h0 e1 hS hA hf hL hF
    obtain ⟨t2, a1, b1⟩ := kk r u t T'.heap (locs ++ L) e1.symm (by rw [← e2]; exact X'.warmed.alike) hp hb k1 k2 k3 T' rfl X'
    exact ⟨t2, st t2 a1, b1⟩
  · obtain ⟨k1, k2, k3⟩ := vx_keep h0 e1 hS hAX hf hL hF
    obtain ⟨t2, a1, b1⟩ := kx E ce q u t T'.heap (locs ++ L) e1.symm (by rw [← e2]; exact X'.warmed.alike) hp hb k1 k2 k3 (by rw [e1]; exact hce) hcv hcl T' rfl X'
    exact ⟨t2, st.trans a1, b1⟩
theorem vx_callf {S SX : Type} {post : UInt32 → S → Prop} {px : SX → Prop} {B : S → State → Prop} {BX : String → SX → State → Prop} {AX : Nat → Prop} (hr : vx_Run p l e R s m args below meth c H locs cells slots mc ms (F0 m pc ls st0) rest (va_Qf post B A1 a) (vx_X px BX AX) free) (hS : va_S A0 H0 H locs) (hA : ∀ q, q < H.size → A1 q → A0 q) (hf : ∀ q, free q → A0 q) (hAX : ∀ q, q < H.size → AX q → A0 q)
    (kx : ∀ (E : String) (ce : Cell) (q9 : Addr) (u : SX) (t : State) (H1 : Heap) (locs1 : List Loc), t.heap = H1 → s.vm.Alike t.vm → px u → BX E u t → H.size ≤ H1.size → (∀ q : Nat, q < H.size → ¬ AX q → H1[q]? = H[q]?) → va_S A0 H0 H1 locs1 → H1[q9]? = some ce → ce.vm = .none → s.vm.findClass E = some ce.cls → vx_W p l e R s m args below meth c H1 locs1 (cells + mc) (slots + ms) Q (F0 m pc ls rest) q9)
    (kk : ∀ (r : UInt32) (u : S) (t : State) (H1 : Heap) (locs1 : List Loc), t.heap = H1 → s.vm.Alike t.vm → post r u → B u t → H.size ≤ H1.size → (∀ q : Nat, q < H.size → ¬ A1 q → H1[q]? = H[q]?) → va_S A0 H0 H1 locs1 → W p l e R s m args below meth c H1 locs1 (cells + mc) (slots + ms) Q (F0 m (pc + 3) ls (.float r :: rest))) : W p l e R s m args below meth c H locs cells slots Q (F0 m pc ls st0) := by
  intro T hT X
  rcases hr T hT X with ⟨v, st₀, t, T', L, h0, X', hL, e1, e2, ⟨⟨r, u, hv, hp, hb⟩, hF⟩, st⟩ | ⟨q, st₀, t, T', L, E, ce, h0, X', hL, e1, e2, ⟨u, hp, hb, hF⟩, hce, hcv, hcl, st⟩
  · cases hv
    obtain ⟨k1, k2, k3⟩ := vx_keep h0 e1 hS hA hf hL hF
    obtain ⟨t2, a1, b1⟩ := kk r u t T'.heap (locs ++ L) e1.symm (by rw [← e2]; exact X'.warmed.alike) hp hb k1 k2 k3 T' rfl X'
    exact ⟨t2, st t2 a1, b1⟩
  · obtain ⟨k1, k2, k3⟩ := vx_keep h0 e1 hS hAX hf hL hF
    obtain ⟨t2, a1, b1⟩ := kx E ce q u t T'.heap (locs ++ L) e1.symm (by rw [← e2]; exact X'.warmed.alike) hp hb k1 k2 k3 (by rw [e1]; exact hce) hcv hcl T' rfl X'
    exact ⟨t2, st.trans a1, b1⟩
theorem vx_calld {S SX : Type} {post : UInt64 → S → Prop} {px : SX → Prop} {B : S → State → Prop} {BX : String → SX → State → Prop} {AX : Nat → Prop} (hr : vx_Run p l e R s m args below meth c H locs cells slots mc ms (F0 m pc ls st0) rest (va_Qd post B A1 a) (vx_X px BX AX) free) (hS : va_S A0 H0 H locs) (hA : ∀ q, q < H.size → A1 q → A0 q) (hf : ∀ q, free q → A0 q) (hAX : ∀ q, q < H.size → AX q → A0 q)
    (kx : ∀ (E : String) (ce : Cell) (q9 : Addr) (u : SX) (t : State) (H1 : Heap) (locs1 : List Loc), t.heap = H1 → s.vm.Alike t.vm → px u → BX E u t → H.size ≤ H1.size → (∀ q : Nat, q < H.size → ¬ AX q → H1[q]? = H[q]?) → va_S A0 H0 H1 locs1 → H1[q9]? = some ce → ce.vm = .none → s.vm.findClass E = some ce.cls → vx_W p l e R s m args below meth c H1 locs1 (cells + mc) (slots + ms) Q (F0 m pc ls rest) q9)
    (kk : ∀ (r : UInt64) (u : S) (t : State) (H1 : Heap) (locs1 : List Loc), t.heap = H1 → s.vm.Alike t.vm → post r u → B u t → H.size ≤ H1.size → (∀ q : Nat, q < H.size → ¬ A1 q → H1[q]? = H[q]?) → va_S A0 H0 H1 locs1 → W p l e R s m args below meth c H1 locs1 (cells + mc) (slots + ms) Q (F0 m (pc + 3) ls (.double r :: rest))) : W p l e R s m args below meth c H locs cells slots Q (F0 m pc ls st0) := by
  intro T hT X
  rcases hr T hT X with ⟨v, st₀, t, T', L, h0, X', hL, e1, e2, ⟨⟨r, u, hv, hp, hb⟩, hF⟩, st⟩ | ⟨q, st₀, t, T', L, E, ce, h0, X', hL, e1, e2, ⟨u, hp, hb, hF⟩, hce, hcv, hcl, st⟩
  · cases hv
    obtain ⟨k1, k2, k3⟩ := vx_keep h0 e1 hS hA hf hL hF
    obtain ⟨t2, a1, b1⟩ := kk r u t T'.heap (locs ++ L) e1.symm (by rw [← e2]; exact X'.warmed.alike) hp hb k1 k2 k3 T' rfl X'
    exact ⟨t2, st t2 a1, b1⟩
  · obtain ⟨k1, k2, k3⟩ := vx_keep h0 e1 hS hAX hf hL hF
    obtain ⟨t2, a1, b1⟩ := kx E ce q u t T'.heap (locs ++ L) e1.symm (by rw [← e2]; exact X'.warmed.alike) hp hb k1 k2 k3 (by rw [e1]; exact hce) hcv hcl T' rfl X'
    exact ⟨t2, st.trans a1, b1⟩
theorem vx_callv {S SX : Type} {post : S → Prop} {px : SX → Prop} {B : S → State → Prop} {BX : String → SX → State → Prop} {AX : Nat → Prop} (hr : vx_Run p l e R s m args below meth c H locs cells slots mc ms (F0 m pc ls st0) rest (va_Qv post B A1 a) (vx_X px BX AX) free) (hS : va_S A0 H0 H locs) (hA : ∀ q, q < H.size → A1 q → A0 q) (hf : ∀ q, free q → A0 q) (hAX : ∀ q, q < H.size → AX q → A0 q)
    (kx : ∀ (E : String) (ce : Cell) (q9 : Addr) (u : SX) (t : State) (H1 : Heap) (locs1 : List Loc), t.heap = H1 → s.vm.Alike t.vm → px u → BX E u t → H.size ≤ H1.size → (∀ q : Nat, q < H.size → ¬ AX q → H1[q]? = H[q]?) → va_S A0 H0 H1 locs1 → H1[q9]? = some ce → ce.vm = .none → s.vm.findClass E = some ce.cls → vx_W p l e R s m args below meth c H1 locs1 (cells + mc) (slots + ms) Q (F0 m pc ls rest) q9)
    (kk : ∀ (u : S) (t : State) (H1 : Heap) (locs1 : List Loc), t.heap = H1 → s.vm.Alike t.vm → post u → B u t → H.size ≤ H1.size → (∀ q : Nat, q < H.size → ¬ A1 q → H1[q]? = H[q]?) → va_S A0 H0 H1 locs1 → W p l e R s m args below meth c H1 locs1 (cells + mc) (slots + ms) Q (F0 m (pc + 3) ls (rest))) : W p l e R s m args below meth c H locs cells slots Q (F0 m pc ls st0) := by
  intro T hT X
  rcases hr T hT X with ⟨v, st₀, t, T', L, h0, X', hL, e1, e2, ⟨⟨u, hv, hp, hb⟩, hF⟩, st⟩ | ⟨q, st₀, t, T', L, E, ce, h0, X', hL, e1, e2, ⟨u, hp, hb, hF⟩, hce, hcv, hcl, st⟩
  · cases hv
    obtain ⟨k1, k2, k3⟩ := vx_keep h0 e1 hS hA hf hL hF
    obtain ⟨t2, a1, b1⟩ := kk u t T'.heap (locs ++ L) e1.symm (by rw [← e2]; exact X'.warmed.alike) hp hb k1 k2 k3 T' rfl X'
    exact ⟨t2, st t2 a1, b1⟩
  · obtain ⟨k1, k2, k3⟩ := vx_keep h0 e1 hS hAX hf hL hF
    obtain ⟨t2, a1, b1⟩ := kx E ce q u t T'.heap (locs ++ L) e1.symm (by rw [← e2]; exact X'.warmed.alike) hp hb k1 k2 k3 (by rw [e1]; exact hce) hcv hcl T' rfl X'
    exact ⟨t2, st.trans a1, b1⟩
/-- caught by the row x of this method's table; the rows ahead don't take it -/
theorem vx_catch {own name : String} {E : String} {ce : Cell} {q : Addr} (hown : s.vm.findClass own = some m.cls) (pre : List ExceptionTableEntry) (x : ExceptionTableEntry) (suf : List ExceptionTableEntry) (hsplit : c.exceptionTable.toList = pre ++ x :: suf)
    (hpass : ∀ z ∈ pre, covers z pc = false ∨ (z.catchType ≠ 0 ∧ ∃ nm : String, (Cond.classLink own z.catchType nm).before args s = true ∧ va_Nc E nm s)) (hx : covers x pc = true) (h0 : x.catchType ≠ 0)
    (hlink : (Cond.classLink own x.catchType name).before args s = true) (hcast : (Cond.castable E name).before args s = true) (hcell : H[q]? = some ce) (hv : ce.vm = .none) (hcl : s.vm.findClass E = some ce.cls)
    (kk : W p l e R s m args below meth c H locs cells slots Q (F0 m x.handlerPc ls [.ref q])) : vx_W p l e R s m args below meth c H locs cells slots Q (F0 m pc ls rest) q := by
  intro T hT X
  have hpl : e.platform.magicAccessors = ({} : Platform).magicAccessors := by rw [X.admits.platform]
  obtain ⟨c3, c4, hc3, hc4, hasg⟩ := Cond.castable_spec hcast
  cases Option.some.inj (hc3.symm.trans hcl)
  obtain ⟨c5, hc5, hcl5⟩ := Cond.classLink_spec hown hlink e.platform hpl
  cases Option.some.inj (hc4.symm.trans hc5)
  obtain ⟨vm', X', st⟩ := X.thenCaughtThrough q (g := F0 m pc ls rest) rfl (Steps.refl _) (by rw [hT]; exact hcell) (by rw [hv]; rfl) (by obtain ⟨k9, h9, -⟩ := Vm.findClass_spec hcl; exact ⟨k9, h9⟩) pre x suf hsplit
    (fun z hz => by
      rcases hpass z hz with h | ⟨hz0, nm, hl1, hn1⟩
      · exact Or.inl h
      · obtain ⟨c6, hc6, hcl6⟩ := Cond.classLink_spec hown hl1 e.platform hpl
        obtain ⟨a8, b8, h1, h2, h3⟩ := hn1
        cases Option.some.inj (h1.symm.trans hcl)
        cases Option.some.inj (h2.symm.trans hc6)
        exact Or.inr ⟨hz0, _, hcl6, h3⟩) hx (Or.inr ⟨h0, c4, hcl5, hasg⟩)
  obtain ⟨t, a1, b1⟩ := kk (T.setVm vm') hT X'
  exact ⟨t, st.trans a1, b1⟩
end Rows
section Ends
variable {p : Program} {l : Launch} {e : Env} {R : Room} {s : State} {m : MethodId} {args : Array Value} {below : List Frame} {meth : Method} {c : Code} {H : Heap} {locs : List Loc} {cells slots : Nat} {Q : State → Prop}
variable {mc ms : Nat} {free : Addr → Prop} {A0 A1 : Nat → Prop} {H0 : Heap} {a : Array Value} {ls : Array Slot} {st0 rest : List Value}
variable {Qc : Array Value → State → Outcome → State → Prop} {XC : String → State → State → Prop}
/-- what a body that may throw owes at its end -/
def vx_MQ (below : List Frame) (Qc : Array Value → State → Outcome → State → Prop) (XC : String → State → State → Prop) (a : Array Value) (s : State) (mc ms : Nat) (free : Addr → Prop) : State → Prop := fun t =>
  ∃ o, t.status = .running ∧ Ended t below o ∧ vx_Q Qc XC mc ms free a s o t
theorem vx_ret {g : JFrame} {mc ms : Nat} (k : W p l e R s m args below meth c H locs cells slots (MQ below Qc args s mc ms free) g) : W p l e R s m args below meth c H locs cells slots (vx_MQ below Qc XC args s mc ms free) g := by
  intro T hT X
  obtain ⟨t, a1, o, b1, b2, b3, b4⟩ := k T hT X
  exact ⟨t, a1, o, b1, b2, Or.inl ⟨b3, b4⟩⟩
/-- not caught here: it goes on to the caller -/
theorem vx_widen {g : JFrame} {q : Addr} {k n : Nat} (h1 : cells ≤ k) (h2 : slots ≤ n) (kk : vx_W p l e R s m args below meth c H locs k n Q g q) : vx_W p l e R s m args below meth c H locs cells slots Q g q := fun T hT X => kk T hT (stand_widen X h1 h2)
theorem vx_out {pc : Nat} {E : String} {ce : Cell} {q : Addr} {mc ms : Nat} (hout : ∀ x ∈ c.exceptionTable.toList, covers x pc = false) (hlocks : meth.locks = false) (hcell : H[q]? = some ce) (hv : ce.vm = .none) (hcl : s.vm.findClass E = some ce.cls)
    (hx : ∀ t : State, t.heap = H → s.vm.Alike t.vm → XC E s t) (hf : ∀ z ∈ locs, free z.base) (hc : cells ≤ mc) (hs : slots ≤ ms) :
    vx_W p l e R s m args below meth c H locs cells slots (vx_MQ below Qc XC args s mc ms free) (F0 m pc ls rest) q := by
  intro T hT X
  obtain ⟨st1, hrun, hend, hW, hsm⟩ := X.leaveThrown q (g := F0 m pc ls rest) rfl rfl rfl hout hlocks
  have hcell9 : (T.setFrames (.throwing q :: below)).heap[q]? = some ce := by
    show T.heap[q]? = some ce
    rw [hT]; exact hcell
  exact ⟨_, st1, .threw q, hrun, hend, Or.inr ⟨q, rfl, E, ce, locs, hx _ hT hW.alike, hcell9, hv, hcl, hW, hsm.mono hc hs, hf⟩⟩
theorem vx_frame {U : State} {k n : Nat} (h : s.sameButNew ({ U with vm := s.vm } : State) locs k n) : s.heap.size ≤ U.heap.size ∧ ∀ q : Nat, q < s.heap.size → (∀ z ∈ locs, z.base ≠ q) → U.heap[q]? = s.heap[q]? := by
  obtain ⟨-, h2, -, -, -, h6⟩ := h
  refine ⟨h2, fun q hq hz => ?_⟩
  obtain ⟨c9, e1, e2, e3, e4⟩ := h6 q _ (Array.getElem?_eq_getElem hq)
  have hs : c9.slots = (s.heap[q]).slots := Array.ext_getElem? fun i => e4 i fun hm => hz _ hm rfl
  have h9 : c9 = s.heap[q] := by
    rw [hs] at e2
    exact e2
  have e5 : U.heap[q]? = some c9 := e1
  rw [e5, h9, Array.getElem?_eq_getElem hq]
/-- the words of a throw but the four that speak of the heap -/
def vx_no (w : Cond) : Bool := decide (w ≠ .isRef (.static Bundle.tN "UNASSIGNED_STACK" Bundle.steD)) && decide (w ≠ .isRef (.static Bundle.tN "SUPPRESSED_SENTINEL" Bundle.listD)) && decide (w ≠ .laysStatic Bundle.tN "UNASSIGNED_STACK" Bundle.steD) && decide (w ≠ .laysStatic Bundle.tN "SUPPRESSED_SENTINEL" Bundle.listD)
def vx_at0 (own : String) (ic : Nat) (X : String) (names : List String) : List Cond := (Bundle.ownAtoms0 own ic X names).filter vx_no
def vx_atS (own : String) (ic : Nat) (X : String) (names : List String) : List Cond := (Bundle.ownAtoms own ic X names).filter vx_no
/-- a word that the tables alone decide, or a good one -/
def vx_ot (w : Cond) : Bool := w.onTables || goodWord w
theorem vx_ot_at {args a' : Array Value} {s U : State} {w : Cond} (hW : s.WarmedH U.vm) (hvm : s.vm = U.vm) (hg : vx_ot w = true) (h : w.before args s = true) : w.before a' U = true := by
  simp only [vx_ot, Bool.or_eq_true] at hg
  rcases hg with hg | hg
  · exact va_tabs hg hvm h
  · exact word_at hW (good_of_word hg) h
/-- a list's words: the good ones out of the method's own list, the others by premises of their own -/
theorem vx_hat {args : Array Value} {s : State} {L B : List Cond} (h1 : ∀ w ∈ L.filter goodWord, w.before args s = true) (h2 : ∀ w ∈ L.filter (fun w => !goodWord w), w ∈ B) (h3 : ∀ w ∈ B, w.before args s = true) : ∀ w ∈ L, w.before args s = true := by
  intro w hw
  by_cases g : goodWord w = true
  · exact h1 w (List.mem_filter.mpr ⟨hw, g⟩)
  · refine h3 w (h2 w (List.mem_filter.mpr ⟨hw, ?_⟩))
    show (!goodWord w) = true
    cases hgw : goodWord w
    · rfl
    · exact absurd hgw g
theorem vx_c {args : Array Value} {s : State} {w : Cond} {B : List Cond} (h : w.before args s = true) (t : ∀ w ∈ B, w.before args s = true) : ∀ w' ∈ w :: B, w'.before args s = true := fun w' h' => (List.mem_cons.mp h').elim (fun e => by rw [e]; exact h) (t w')
theorem vx_n {args : Array Value} {s : State} : ∀ w ∈ ([] : List Cond), w.before args s = true := fun _ h => nomatch h
theorem vx_own {args : Array Value} {s : State} {L : List Cond} (h1 : ∀ w ∈ L.filter vx_no, w.before args s = true)
    (hU : (Cond.isRef (.static Bundle.tN "UNASSIGNED_STACK" Bundle.steD)).before args s = true) (hN : (Cond.isRef (.static Bundle.tN "SUPPRESSED_SENTINEL" Bundle.listD)).before args s = true)
    (lU : (Cond.laysStatic Bundle.tN "UNASSIGNED_STACK" Bundle.steD).before args s = true) (lN : (Cond.laysStatic Bundle.tN "SUPPRESSED_SENTINEL" Bundle.listD).before args s = true) : ∀ w ∈ L, w.before args s = true := by
  intro w hw
  by_cases e1 : w = .isRef (.static Bundle.tN "UNASSIGNED_STACK" Bundle.steD)
  · rw [e1]; exact hU
  · by_cases e2 : w = .isRef (.static Bundle.tN "SUPPRESSED_SENTINEL" Bundle.listD)
    · rw [e2]; exact hN
    · by_cases e3 : w = .laysStatic Bundle.tN "UNASSIGNED_STACK" Bundle.steD
      · rw [e3]; exact lU
      · by_cases e4 : w = .laysStatic Bundle.tN "SUPPRESSED_SENTINEL" Bundle.listD
        · rw [e4]; exact lN
        · exact h1 w (List.mem_filter.mpr ⟨hw, by unfold vx_no; rw [decide_eq_true e1, decide_eq_true e2, decide_eq_true e3, decide_eq_true e4]; rfl⟩)
/-- where a static field lies, its class's statics cell in H -/
def vx_L (C n d : String) (A : Nat → Prop) (U : State) (H : Heap) : Prop := ∃ (c : ClassId) (k : Class) (i : Nat) (f : Field) (a : Nat) (cell : Cell), U.vm.findClass C = some c ∧ U.fieldFound? C n d = some (c, k, i, f) ∧ f.isStatic = true ∧ k.statics = some a ∧ H[a]? = some cell ∧ cell.vm.isStatics = true ∧ cell.cls = c ∧ f.slot < cell.slots.size ∧ k.staticTypes[f.slot]? = some f.type ∧ ¬ A a
theorem vx_L.moved {C n d : String} {A : Nat → Prop} {u U : State} {H : Heap} (hvm : u.vm.Alike U.vm) (h : vx_L C n d A u H) : vx_L C n d A U H := by
  obtain ⟨c, k, i, f, a, cell, h1, h2, h3, h4, h5, h6, h7, h8, h9, h10⟩ := h
  obtain ⟨k', hi', he⟩ := State.fieldFound?_setVm hvm h2
  exact ⟨c, k', i, f, a, cell, by rw [hvm.findClass]; exact h1, hi', h3, by rw [he]; exact h4, h5, h6, h7, h8, by rw [he]; exact h9, h10⟩
theorem vx_L.kept {C n d : String} {A : Nat → Prop} {U : State} {H H1 : Heap} (h : vx_L C n d A U H) (hq : ∀ a : Nat, a < H.size → ¬ A a → H1[a]? = H[a]?) : vx_L C n d A U H1 := by
  obtain ⟨c, k, i, f, a, cell, h1, h2, h3, h4, h5, h6, h7, h8, h9, h10⟩ := h
  exact ⟨c, k, i, f, a, cell, h1, h2, h3, h4, by rw [hq a (Array.getElem?_eq_some_iff.mp h5).1 h10]; exact h5, h6, h7, h8, h9, h10⟩
theorem vx_L.narrow {C n d : String} {A B : Nat → Prop} {U : State} {H : Heap} (h : vx_L C n d A U H) (hAB : ∀ q, B q → A q) : vx_L C n d B U H := by
  obtain ⟨c, k, i, f, a, cell, h1, h2, h3, h4, h5, h6, h7, h8, h9, h10⟩ := h
  exact ⟨c, k, i, f, a, cell, h1, h2, h3, h4, h5, h6, h7, h8, h9, fun z => h10 (hAB _ z)⟩
theorem vx_L.word {C n d : String} {A : Nat → Prop} {s : State} {args : Array Value} (h : vx_L C n d A s s.heap) : (Cond.laysStatic C n d).before args s = true := by
  obtain ⟨c, k, i, f, a, cell, h1, h2, h3, h4, h5, h6, h7, h8, h9, -⟩ := h
  show (Cond.laysStatic C n d).holds args s none s [] = true
  exact Cond.laysStatic_of h1 h2 h3 h4 h5 h6 h7 h8 h9
/-- .. and what it holds: null or some reference -/
def vx_Zq (C n d : String) (A : Nat → Prop) (U : State) (H : Heap) : Prop := va_Zq C n d A U H ∧ vx_L C n d A U H
theorem vx_Zq.moved {C n d : String} {A : Nat → Prop} {u U : State} {H : Heap} (hvm : u.vm.Alike U.vm) (h : vx_Zq C n d A u H) : vx_Zq C n d A U H := ⟨va_Zq.moved hvm h.1, vx_L.moved hvm h.2⟩
theorem vx_Zq.kept {C n d : String} {A : Nat → Prop} {U : State} {H H1 : Heap} (h : vx_Zq C n d A U H) (hq : ∀ a : Nat, a < H.size → ¬ A a → H1[a]? = H[a]?) : vx_Zq C n d A U H1 := ⟨va_Zq.kept h.1 hq, vx_L.kept h.2 hq⟩
theorem vx_Zq.narrow {C n d : String} {A B : Nat → Prop} {U : State} {H : Heap} (h : vx_Zq C n d A U H) (hAB : ∀ q, B q → A q) : vx_Zq C n d B U H := ⟨va_Zq.narrow h.1 hAB, vx_L.narrow h.2 hAB⟩
theorem vx_Zqof {args : Array Value} {s : State} {C n d : String} {A : Nat → Prop} (hl : (Cond.laysStatic C n d).before args s = true) (hini : (Cond.initialized C).before args s = true) (h : (Cond.isRef (.static C n d)).before args s = true) (hA : ∀ a : Nat, a < s.heap.size → ¬ A a) : vx_Zq C n d A s s.heap := by
  refine ⟨va_Zqof hl hini h hA, ?_⟩
  obtain ⟨c, k, i, f, a, cell, h1, h2, h3, h4, h5, h6, h7, h8, h9⟩ := Cond.laysStatic_spec hl
  exact ⟨c, k, i, f, a, cell, h1, h2, h3, h4, h5, h6, h7, h8, h9, hA a (Array.getElem?_eq_some_iff.mp h5).1⟩
theorem vx_isRef {C n d : String} {v : Value} {A : Nat → Prop} {s : State} {args : Array Value} (h : va_Z C n d v A s s.heap) (hv : v.isRef = true) : (Cond.isRef (.static C n d)).before args s = true := by
  obtain ⟨cf, kf, fi, f, a, cell, h1, h2, h3, h4, h5, h6, h7, -⟩ := h
  have he : (Term.static C n d).eval args s none [] s = some v := by
    simp [Term.eval, State.fieldNamed?, h1, h2, h4, h5, h6, h7]
  simp only [Cond.before, Cond.holds, Cond.value, he]
  cases v <;> simp_all [Value.isRef]
theorem vx_isRefq {C n d : String} {A : Nat → Prop} {s : State} {args : Array Value} (h : va_Zq C n d A s s.heap) : (Cond.isRef (.static C n d)).before args s = true := by
  rcases h with h | ⟨t, h⟩
  · exact vx_isRef h rfl
  · exact vx_isRef h rfl
/-- the same frame, seen from here: as if the method were called anew in this heap -/
theorem vx_rebase {T : State} (X : Stand p l e R s m args below meth c T locs cells slots) {R' : Room} (hf : R'.frames ≤ R.frames) (hl : R'.locals ≤ R.locals) (hc : cells + R'.cells ≤ R.cells) (hs : slots + R'.slots ≤ R.slots) :
    Stand p l e R' ((T.setVm s.vm).setFrames (.invoking m args :: below)) m args below meth c T [] 0 0 := by
  have htop : (T.setVm s.vm).topJava?.isSome := X.here.top
  have hF : ((T.setVm s.vm).setFrames (.invoking m args :: below)).frames = .invoking m args :: below := State.frames_setFrames _ (State.cur_lt_of_top htop)
  obtain ⟨g₀, hg0⟩ := Option.isSome_iff_exists.mp htop
  obtain ⟨r, hr⟩ := State.topJava?_eq_some.mp hg0
  have hl9 : e.platform.stackLimits (T.setVm s.vm).me = e.platform.stackLimits s.me := X.limits
  have hb9 : (T.setVm s.vm).me.stackBytes = s.me.stackBytes := X.bytes
  refine ⟨X.admits, X.cas, X.clock, hF, ?_, X.hears, X.method, X.code, X.here, X.tail, X.warmed, ?_, ?_, ?_⟩
  · have h := X.room
    have hU : ((T.setVm s.vm).setFrames (.invoking m args :: below)).localsInUse = s.localsInUse := by
      rw [State.localsInUse_invoking hF (meth := meth) (c := c) X.method X.code, State.localsInUse_invoking X.frames X.method X.code]
    simp only [State.hasRoom, Bool.and_eq_true, decide_eq_true_eq] at h ⊢
    obtain ⟨⟨⟨⟨h1, h2, h3, h4, h5, h6⟩, h7⟩, h8⟩, h9⟩ := h
    rw [X.frames, List.length_cons] at h2 h3
    have q1 := X.heapSize
    have q2 := X.used
    simp only [hF, hU, List.length_cons, State.stackLimits_setFrames, State.stackBytes_setFrames, hl9, hb9]
    refine ⟨⟨⟨⟨by omega, by omega, by omega, by omega, by omega, h6⟩, ?_⟩, ?_⟩, X.book⟩
    · show T.heap.size + R'.cells ≤ e.platform.maxCells
      omega
    · show T.slotsUsed + R'.slots ≤ e.platform.maxSlots
      omega
  · rw [State.stackLimits_setFrames]; rfl
  · rw [State.stackBytes_setFrames]; rfl
  · refine ⟨?_, Nat.le_refl _, Nat.le_refl _, ?_, ?_, fun a c9 h9 => ⟨c9, h9, rfl, rfl, fun _ _ => rfl⟩⟩
    · obtain ⟨t, ht, -⟩ := State.frames_cons hr
      show T.setVm s.vm = { ((T.setVm s.vm).setFrames (.invoking m args :: below)).setFrames (T.setVm s.vm).frames with heap := T.heap, slotsUsed := T.slotsUsed }
      rw [State.setFrames_setFrames, State.setFrames_self ht]
      rfl
    · show T.slotsUsed = T.slotsUsed + ((T.heap.toList.drop T.heap.size).map (·.slots.size)).sum
      rw [List.drop_eq_nil_of_le (Nat.le_of_eq Array.length_toList)]
      rfl
    · show ((T.heap.toList.drop T.heap.size).map (·.slots.size)).sum ≤ 0
      rw [List.drop_eq_nil_of_le (Nat.le_of_eq Array.length_toList)]
      exact Nat.le_refl _
/-- 'throw new E()': new; dup; invokespecial; athrow -/
theorem vx_throw0 {cc : ByteArray} {pc : Nat} (hexec : p.tables.exec = Jvm.exec) (hb : c.code = cc) (hl : l.stackTraces = false) {own cls : String} {names : List String} {ik ic mc ms : Nat} {A : Nat → Prop}
    (hown : s.vm.findClass own = some m.cls) (hcls : Bundle.fit cls = true) (hnames : ∀ n ∈ names, Bundle.fit n = true)
    (hk : (Cond.classLink own ik cls).before args s = true) (hini : (Cond.initialized cls).before args s = true) (hat : ∀ w ∈ vx_at0 own ic cls names, w.before args s = true)
    (hgood : ∀ w ∈ Cond.classLink own ik cls :: Cond.initialized cls :: vx_at0 own ic cls names, vx_ot w = true)
    (hU : vx_Zq Bundle.tN "UNASSIGNED_STACK" Bundle.steD A s s.heap) (hN : vx_Zq Bundle.tN "SUPPRESSED_SENTINEL" Bundle.listD A s s.heap) (hS : va_S A s.heap H locs) (hsize : ls.size = c.maxLocals)
    (d0 : decode cc pc = .ok (.new ik, 3)) (d3 : decode cc (pc + 3) = .ok (.dup, 1)) (d4 : decode cc (pc + 4) = .ok (.invokespecial ic, 3)) (d7 : decode cc (pc + 7) = .ok (.athrow, 1))
    (hout : ∀ x ∈ c.exceptionTable.toList, covers x (pc + 7) = false)
    (hRframes : names.length + 3 < R.frames) (hRlocals : (rest.map fun v => v.category).sum + (13 * (names.length + 1) + 42) ≤ R.locals) (hRcells : cells + 1 ≤ R.cells) (hRslots : slots + 6 ≤ R.slots) (hlocks : meth.locks = false)
    (hx : ∀ t : State, s.vm.Alike t.vm → H.size ≤ t.heap.size → (∀ q : Nat, q < H.size → t.heap[q]? = H[q]?) → XC cls s t)
    (hf : ∀ z ∈ locs, free z.base) (hc : cells + 1 ≤ mc) (hs : slots + 6 ≤ ms) :
    W p l e R s m args below meth c H locs cells slots (vx_MQ below Qc XC args s mc ms free) (F0 m pc ls rest) := by
  intro T hT X
  have htr : e.platform.stackTraces = false := (show e.platform.stackTraces = l.stackTraces by rw [X.admits.platform]).trans hl
  have Y := vx_rebase X (R' := { frames := R.frames, locals := R.locals, cells := 1, slots := 6 }) (Nat.le_refl _) (Nat.le_refl _) hRcells hRslots
  obtain ⟨s', hA⟩ : ∃ z, z = (T.setVm s.vm).setFrames (.invoking m args :: below) := ⟨_, rfl⟩
  rw [← hA] at Y
  have hvm : s'.vm = s.vm := by rw [hA]; rfl
  have hhp : s'.heap = H := by rw [hA]; exact hT
  have hW0 : s.WarmedH s'.vm := by rw [hvm]; exact State.WarmedH.refl s
  have hat' : ∀ w ∈ vx_at0 own ic cls names, w.before args s' = true := fun w hw => vx_ot_at hW0 hvm.symm (hgood w (List.mem_cons_of_mem _ (List.mem_cons_of_mem _ hw))) (hat w hw)
  have hk' : (Cond.classLink own ik cls).before args s' = true := vx_ot_at hW0 hvm.symm (hgood _ List.mem_cons_self) hk
  have hini' : (Cond.initialized cls).before args s' = true := vx_ot_at hW0 hvm.symm (hgood _ (List.mem_cons_of_mem _ List.mem_cons_self)) hini
  have hU' : vx_Zq Bundle.tN "UNASSIGNED_STACK" Bundle.steD A s' s'.heap := by rw [hhp]; exact vx_Zq.moved hW0.alike (hU.kept hS.2.1)
  have hN' : vx_Zq Bundle.tN "SUPPRESSED_SENTINEL" Bundle.listD A s' s'.heap := by rw [hhp]; exact vx_Zq.moved hW0.alike (hN.kept hS.2.1)
  have h : ∀ w ∈ Bundle.ownAtoms0 own ic cls names, w.before args s' = true := vx_own hat' (vx_isRefq hU'.1) (vx_isRefq hN'.1) hU'.2.word hN'.2.word
  have hown' : s'.vm.findClass own = some m.cls := by rw [hvm]; exact hown
  have hins : (Cond.instantiable cls 6).before args s' = true := h _ (by simp [Bundle.ownAtoms0])
  obtain ⟨vm₁, cX, kX, hfX, hkX, -, -, X₁, st1⟩ := Y.newCold hexec (own := own) (C := cls) (index := ik) (n := 6) hown' hk' hins hini'
    (g := F0 m pc ls rest) rfl (by rw [hb]; exact d0) (Nat.le_refl _) (Nat.le_refl _)
  generalize hT1 : (T.setVm vm₁).pushCell { cls := cX, slots := kX.instanceTypes.map defaultValue, vm := .none } = T1 at X₁ st1
  have hcat : (Value.ref T.heap.size).category = 1 := rfl
  have hcellA : T1.heap[T.heap.size]? = some (freshCell cX kX) := by rw [← hT1]; exact State.heap_pushCell_size _ _
  have d3' : decode c.code (pc + 3) = .ok (.dup, 1) := by rw [hb]; exact d3
  obtain ⟨U, hsteps, hrun, hend, hW, hsame, ce, hce, hO⟩ := X₁.ctorThrow0 hexec htr (own := own) (cls := cls) (names := names) (ic := ic) hown' hcls hnames h (fun x hx => nomatch hx) hfX hkX hcellA (by rw [hhp, hT]; exact Nat.le_refl _)
    (g := { method := m, pc := pc + 4, locals := ls, stack := .ref T.heap.size :: .ref T.heap.size :: rest, locked := none }) rfl hsize rfl rfl (rest := rest) rfl
    (by rw [hb]; exact d4) (by rw [hb]; exact d7) hout hRframes (by simp only [List.map_cons, List.sum_cons, hcat]; omega) hlocks
  obtain ⟨f1, f2⟩ := vx_frame hsame
  rw [hhp] at f1 f2
  have hWs : s.WarmedH U.vm := State.WarmedH.trans hW0 hW
  have hcl : s.vm.findClass cls = some ce.cls := by
    have h9 := hO.cls
    rw [hvm] at h9
    exact h9
  have hall : s.sameButNew ({ U with vm := s.vm } : State) locs mc ms := by
    subst hA
    obtain ⟨e1, e2⟩ := hsame
    rw [State.setFrames_setFrames] at e1
    have h2 : (T.setVm s.vm).sameButNew ({ U with vm := s.vm } : State) [] (0 + 1) (0 + 6) := ⟨e1, e2⟩
    have h3 := X.same.trans h2
    rw [List.append_nil] at h3
    exact h3.mono hc hs
  refine ⟨U, ?_, .threw T.heap.size, hrun, hend, Or.inr ⟨T.heap.size, rfl, cls, ce, locs, hx U hWs.alike f1 (fun q hq => f2 q hq (fun z hz => nomatch hz)), hce, hO.vm, hcl, hWs, hall, hf⟩⟩
  refine st1 _ ?_
  show Steps p.tables e below (T1.setTop { method := m, pc := pc + 3, locals := ls, stack := .ref T.heap.size :: rest, locked := none }) _
  jvm_step X₁.here [X₁.here.top, hexec, d3', Value.category]
  exact hsteps
/-- 'throw new E("text")': new; dup; ldc; invokespecial; athrow -/
theorem vx_throwS {cc : ByteArray} {pc : Nat} (hexec : p.tables.exec = Jvm.exec) (hb : c.code = cc) (hl : l.stackTraces = false) {own cls text : String} {names : List String} {ik is ic mc ms sa : Nat} {A : Nat → Prop}
    (hown : s.vm.findClass own = some m.cls) (hcls : Bundle.fit cls = true) (hnames : ∀ n ∈ names, Bundle.fit n = true)
    (hk : (Cond.classLink own ik cls).before args s = true) (hini : (Cond.initialized cls).before args s = true) (hstr : vk_R own is text sa s) (hat : ∀ w ∈ vx_atS own ic cls names, w.before args s = true)
    (hgood : ∀ w ∈ Cond.classLink own ik cls :: Cond.initialized cls :: vx_atS own ic cls names, vx_ot w = true)
    (hU : vx_Zq Bundle.tN "UNASSIGNED_STACK" Bundle.steD A s s.heap) (hN : vx_Zq Bundle.tN "SUPPRESSED_SENTINEL" Bundle.listD A s s.heap) (hS : va_S A s.heap H locs) (hsize : ls.size = c.maxLocals)
    (d0 : decode cc pc = .ok (.new ik, 3)) (d3 : decode cc (pc + 3) = .ok (.dup, 1)) (d4 : decode cc (pc + 4) = .ok (.ldc is, 2)) (d6 : decode cc (pc + 6) = .ok (.invokespecial ic, 3)) (d9 : decode cc (pc + 9) = .ok (.athrow, 1))
    (hout : ∀ x ∈ c.exceptionTable.toList, covers x (pc + 9) = false)
    (hRframes : names.length + 3 < R.frames) (hRlocals : (rest.map fun v => v.category).sum + (13 * (names.length + 1) + 43) ≤ R.locals) (hRcells : cells + 1 ≤ R.cells) (hRslots : slots + 6 ≤ R.slots) (hlocks : meth.locks = false)
    (hx : ∀ t : State, s.vm.Alike t.vm → H.size ≤ t.heap.size → (∀ q : Nat, q < H.size → t.heap[q]? = H[q]?) → XC cls s t)
    (hf : ∀ z ∈ locs, free z.base) (hc : cells + 1 ≤ mc) (hs : slots + 6 ≤ ms) :
    W p l e R s m args below meth c H locs cells slots (vx_MQ below Qc XC args s mc ms free) (F0 m pc ls rest) := by
  intro T hT X
  have htr : e.platform.stackTraces = false := (show e.platform.stackTraces = l.stackTraces by rw [X.admits.platform]).trans hl
  have Y := vx_rebase X (R' := { frames := R.frames, locals := R.locals, cells := 1, slots := 6 }) (Nat.le_refl _) (Nat.le_refl _) hRcells hRslots
  obtain ⟨s', hA⟩ : ∃ z, z = (T.setVm s.vm).setFrames (.invoking m args :: below) := ⟨_, rfl⟩
  rw [← hA] at Y
  have hvm : s'.vm = s.vm := by rw [hA]; rfl
  have hhp : s'.heap = H := by rw [hA]; exact hT
  have hW0 : s.WarmedH s'.vm := by rw [hvm]; exact State.WarmedH.refl s
  have hat' : ∀ w ∈ vx_atS own ic cls names, w.before args s' = true := fun w hw => vx_ot_at hW0 hvm.symm (hgood w (List.mem_cons_of_mem _ (List.mem_cons_of_mem _ hw))) (hat w hw)
  have hk' : (Cond.classLink own ik cls).before args s' = true := vx_ot_at hW0 hvm.symm (hgood _ List.mem_cons_self) hk
  have hini' : (Cond.initialized cls).before args s' = true := vx_ot_at hW0 hvm.symm (hgood _ (List.mem_cons_of_mem _ List.mem_cons_self)) hini
  have hU' : vx_Zq Bundle.tN "UNASSIGNED_STACK" Bundle.steD A s' s'.heap := by rw [hhp]; exact vx_Zq.moved hW0.alike (hU.kept hS.2.1)
  have hN' : vx_Zq Bundle.tN "SUPPRESSED_SENTINEL" Bundle.listD A s' s'.heap := by rw [hhp]; exact vx_Zq.moved hW0.alike (hN.kept hS.2.1)
  have h : ∀ w ∈ Bundle.ownAtoms own ic cls names, w.before args s' = true := vx_own hat' (vx_isRefq hU'.1) (vx_isRefq hN'.1) hU'.2.word hN'.2.word
  have hown' : s'.vm.findClass own = some m.cls := by rw [hvm]; exact hown
  have hins : (Cond.instantiable cls 6).before args s' = true := h _ (by simp [Bundle.ownAtoms])
  obtain ⟨vm₁, cX, kX, hfX, hkX, -, -, X₁, st1⟩ := Y.newCold hexec (own := own) (C := cls) (index := ik) (n := 6) hown' hk' hins hini'
    (g := F0 m pc ls rest) rfl (by rw [hb]; exact d0) (Nat.le_refl _) (Nat.le_refl _)
  generalize hT1 : (T.setVm vm₁).pushCell { cls := cX, slots := kX.instanceTypes.map defaultValue, vm := .none } = T1 at X₁ st1
  have hcat : (Value.ref T.heap.size).category = 1 := rfl
  have hcellA : T1.heap[T.heap.size]? = some (freshCell cX kX) := by rw [← hT1]; exact State.heap_pushCell_size _ _
  have d3' : decode c.code (pc + 3) = .ok (.dup, 1) := by rw [hb]; exact d3
  have d4' : decode c.code (pc + 4) = .ok (.ldc is, 2) := by rw [hb]; exact d4
  have hstr' : vk_R own is text sa s' := vk_R.warm hW0 hstr
  obtain ⟨U, hsteps, hrun, hend, hW, hsame, ce, hce, hO⟩ := X₁.ctorThrowS hexec htr (own := own) (cls := cls) (names := names) (ic := ic) hown' hcls hnames h (fun x hx => nomatch hx) hfX hkX hcellA (by rw [hhp, hT]; exact Nat.le_refl _) (msg := .ref sa) rfl
    (g := { method := m, pc := pc + 6, locals := ls, stack := .ref sa :: .ref T.heap.size :: .ref T.heap.size :: rest, locked := none }) rfl hsize rfl rfl (rest := rest) rfl
    (by rw [hb]; exact d6) (by rw [hb]; exact d9) hout hRframes (by simp only [List.map_cons, List.sum_cons, hcat]; omega) hlocks
  obtain ⟨f1, f2⟩ := vx_frame hsame
  rw [hhp] at f1 f2
  have hWs : s.WarmedH U.vm := State.WarmedH.trans hW0 hW
  have hcl : s.vm.findClass cls = some ce.cls := by
    have h9 := hO.cls
    rw [hvm] at h9
    exact h9
  have hall : s.sameButNew ({ U with vm := s.vm } : State) locs mc ms := by
    subst hA
    obtain ⟨e1, e2⟩ := hsame
    rw [State.setFrames_setFrames] at e1
    have h2 : (T.setVm s.vm).sameButNew ({ U with vm := s.vm } : State) [] (0 + 1) (0 + 6) := ⟨e1, e2⟩
    have h3 := X.same.trans h2
    rw [List.append_nil] at h3
    exact h3.mono hc hs
  refine ⟨U, ?_, .threw T.heap.size, hrun, hend, Or.inr ⟨T.heap.size, rfl, cls, ce, locs, hx U hWs.alike f1 (fun q hq => f2 q hq (fun z hz => nomatch hz)), hce, hO.vm, hcl, hWs, hall, hf⟩⟩
  refine st1 _ ?_
  show Steps p.tables e below (T1.setTop { method := m, pc := pc + 3, locals := ls, stack := .ref T.heap.size :: rest, locked := none }) _
  jvm_step X₁.here [X₁.here.top, hexec, d3', Value.category]
  exact X₁.ldcString hexec (own := own) (text := text) (index := is) (a := sa) hown' hstr'.1 hstr'.2
    (g := { method := m, pc := pc + 4, locals := ls, stack := .ref T.heap.size :: .ref T.heap.size :: rest, locked := none }) rfl d4' _ hsteps
/-- 'throw new E("text")', the text by a wide index -/
theorem vx_throwSW {cc : ByteArray} {pc : Nat} (hexec : p.tables.exec = Jvm.exec) (hb : c.code = cc) (hl : l.stackTraces = false) {own cls text : String} {names : List String} {ik is ic mc ms sa : Nat} {A : Nat → Prop}
    (hown : s.vm.findClass own = some m.cls) (hcls : Bundle.fit cls = true) (hnames : ∀ n ∈ names, Bundle.fit n = true)
    (hk : (Cond.classLink own ik cls).before args s = true) (hini : (Cond.initialized cls).before args s = true) (hstr : vk_R own is text sa s) (hat : ∀ w ∈ vx_atS own ic cls names, w.before args s = true)
    (hgood : ∀ w ∈ Cond.classLink own ik cls :: Cond.initialized cls :: vx_atS own ic cls names, vx_ot w = true)
    (hU : vx_Zq Bundle.tN "UNASSIGNED_STACK" Bundle.steD A s s.heap) (hN : vx_Zq Bundle.tN "SUPPRESSED_SENTINEL" Bundle.listD A s s.heap) (hS : va_S A s.heap H locs) (hsize : ls.size = c.maxLocals)
    (d0 : decode cc pc = .ok (.new ik, 3)) (d3 : decode cc (pc + 3) = .ok (.dup, 1)) (d4 : decode cc (pc + 4) = .ok (.ldc_w is, 3)) (d7 : decode cc (pc + 7) = .ok (.invokespecial ic, 3)) (d10 : decode cc (pc + 10) = .ok (.athrow, 1))
    (hout : ∀ x ∈ c.exceptionTable.toList, covers x (pc + 10) = false)
    (hRframes : names.length + 3 < R.frames) (hRlocals : (rest.map fun v => v.category).sum + (13 * (names.length + 1) + 43) ≤ R.locals) (hRcells : cells + 1 ≤ R.cells) (hRslots : slots + 6 ≤ R.slots) (hlocks : meth.locks = false)
    (hx : ∀ t : State, s.vm.Alike t.vm → H.size ≤ t.heap.size → (∀ q : Nat, q < H.size → t.heap[q]? = H[q]?) → XC cls s t)
    (hf : ∀ z ∈ locs, free z.base) (hc : cells + 1 ≤ mc) (hs : slots + 6 ≤ ms) :
    W p l e R s m args below meth c H locs cells slots (vx_MQ below Qc XC args s mc ms free) (F0 m pc ls rest) := by
  intro T hT X
  have htr : e.platform.stackTraces = false := (show e.platform.stackTraces = l.stackTraces by rw [X.admits.platform]).trans hl
  have Y := vx_rebase X (R' := { frames := R.frames, locals := R.locals, cells := 1, slots := 6 }) (Nat.le_refl _) (Nat.le_refl _) hRcells hRslots
  obtain ⟨s', hA⟩ : ∃ z, z = (T.setVm s.vm).setFrames (.invoking m args :: below) := ⟨_, rfl⟩
  rw [← hA] at Y
  have hvm : s'.vm = s.vm := by rw [hA]; rfl
  have hhp : s'.heap = H := by rw [hA]; exact hT
  have hW0 : s.WarmedH s'.vm := by rw [hvm]; exact State.WarmedH.refl s
  have hat' : ∀ w ∈ vx_atS own ic cls names, w.before args s' = true := fun w hw => vx_ot_at hW0 hvm.symm (hgood w (List.mem_cons_of_mem _ (List.mem_cons_of_mem _ hw))) (hat w hw)
  have hk' : (Cond.classLink own ik cls).before args s' = true := vx_ot_at hW0 hvm.symm (hgood _ List.mem_cons_self) hk
  have hini' : (Cond.initialized cls).before args s' = true := vx_ot_at hW0 hvm.symm (hgood _ (List.mem_cons_of_mem _ List.mem_cons_self)) hini
  have hU' : vx_Zq Bundle.tN "UNASSIGNED_STACK" Bundle.steD A s' s'.heap := by rw [hhp]; exact vx_Zq.moved hW0.alike (hU.kept hS.2.1)
  have hN' : vx_Zq Bundle.tN "SUPPRESSED_SENTINEL" Bundle.listD A s' s'.heap := by rw [hhp]; exact vx_Zq.moved hW0.alike (hN.kept hS.2.1)
  have h : ∀ w ∈ Bundle.ownAtoms own ic cls names, w.before args s' = true := vx_own hat' (vx_isRefq hU'.1) (vx_isRefq hN'.1) hU'.2.word hN'.2.word
  have hown' : s'.vm.findClass own = some m.cls := by rw [hvm]; exact hown
  have hins : (Cond.instantiable cls 6).before args s' = true := h _ (by simp [Bundle.ownAtoms])
  obtain ⟨vm₁, cX, kX, hfX, hkX, -, -, X₁, st1⟩ := Y.newCold hexec (own := own) (C := cls) (index := ik) (n := 6) hown' hk' hins hini'
    (g := F0 m pc ls rest) rfl (by rw [hb]; exact d0) (Nat.le_refl _) (Nat.le_refl _)
  generalize hT1 : (T.setVm vm₁).pushCell { cls := cX, slots := kX.instanceTypes.map defaultValue, vm := .none } = T1 at X₁ st1
  have hcat : (Value.ref T.heap.size).category = 1 := rfl
  have hcellA : T1.heap[T.heap.size]? = some (freshCell cX kX) := by rw [← hT1]; exact State.heap_pushCell_size _ _
  have d3' : decode c.code (pc + 3) = .ok (.dup, 1) := by rw [hb]; exact d3
  have d4' : decode c.code (pc + 4) = .ok (.ldc_w is, 3) := by rw [hb]; exact d4
  have hstr' : vk_R own is text sa s' := vk_R.warm hW0 hstr
  obtain ⟨U, hsteps, hrun, hend, hW, hsame, ce, hce, hO⟩ := X₁.ctorThrowS hexec htr (own := own) (cls := cls) (names := names) (ic := ic) hown' hcls hnames h (fun x hx => nomatch hx) hfX hkX hcellA (by rw [hhp, hT]; exact Nat.le_refl _) (msg := .ref sa) rfl
    (g := { method := m, pc := pc + 7, locals := ls, stack := .ref sa :: .ref T.heap.size :: .ref T.heap.size :: rest, locked := none }) rfl hsize rfl rfl (rest := rest) rfl
    (by rw [hb]; exact d7) (by rw [hb]; exact d10) hout hRframes (by simp only [List.map_cons, List.sum_cons, hcat]; omega) hlocks
  obtain ⟨f1, f2⟩ := vx_frame hsame
  rw [hhp] at f1 f2
  have hWs : s.WarmedH U.vm := State.WarmedH.trans hW0 hW
  have hcl : s.vm.findClass cls = some ce.cls := by
    have h9 := hO.cls
    rw [hvm] at h9
    exact h9
  have hall : s.sameButNew ({ U with vm := s.vm } : State) locs mc ms := by
    subst hA
    obtain ⟨e1, e2⟩ := hsame
    rw [State.setFrames_setFrames] at e1
    have h2 : (T.setVm s.vm).sameButNew ({ U with vm := s.vm } : State) [] (0 + 1) (0 + 6) := ⟨e1, e2⟩
    have h3 := X.same.trans h2
    rw [List.append_nil] at h3
    exact h3.mono hc hs
  refine ⟨U, ?_, .threw T.heap.size, hrun, hend, Or.inr ⟨T.heap.size, rfl, cls, ce, locs, hx U hWs.alike f1 (fun q hq => f2 q hq (fun z hz => nomatch hz)), hce, hO.vm, hcl, hWs, hall, hf⟩⟩
  refine st1 _ ?_
  show Steps p.tables e below (T1.setTop { method := m, pc := pc + 3, locals := ls, stack := .ref T.heap.size :: rest, locked := none }) _
  jvm_step X₁.here [X₁.here.top, hexec, d3', Value.category]
  exact X₁.ldcStringW hexec (own := own) (text := text) (index := is) (a := sa) hown' hstr'.1 hstr'.2
    (g := { method := m, pc := pc + 4, locals := ls, stack := .ref T.heap.size :: .ref T.heap.size :: rest, locked := none }) rfl d4' _ hsteps
end Ends
section Bodies
variable {l : Launch}
theorem vx_ofW {y : MethodName} {ws ws' : List Cond} {rm : Room} {Pc : Array Value → State → Prop} {Qc : Array Value → State → Outcome → State → Prop} {XC : String → State → State → Prop} {mc ms : Nat} {free : Addr → Prop} {cc : ByteArray} {maxL : Nat} {ret : Option FieldType}
    (hy : plainName y.cls = true) (hw : ws = Cond.code y cc maxL ret :: ws')
    (body : ∀ p e s m args below meth c s₁, BodyLoose p l y (headSpec ws rm) cc maxL ret e s m args below meth c s₁ → c.maxLocals = maxL → (∀ x ∈ c.exceptionTable.toList, False) → Pc args s →
      W p l e (headSpec ws rm).room s m args below meth c s.heap [] 0 0 (vx_MQ below Qc XC args s mc ms free) (entryFrame m args maxL)) : vx_Met l y ws rm Pc Qc XC mc ms free := by
  refine MetFree.of_bodyS (code := cc) (maxLocals := maxL) (ret := ret) hy ?_ ?_
  · intro args s m h hn
    obtain ⟨meth, c, h1, h2, h3, h4, h5, h6, -, -⟩ := Cond.code_spec hn (atoms_spec (ws := ws) h _ (by rw [hw]; exact List.mem_cons_self))
    exact ⟨meth, c, h1, h2, h3, h4, h5, h6⟩
  · intro p e s m args below meth c s₁ B hml hP _
    have hh0 : s₁.heap = s.heap := by rw [B.state]; rfl
    have ht : ∀ x ∈ c.exceptionTable.toList, False := by
      obtain ⟨meth9, c9, h1, h2, -, -, -, -, h7, -⟩ := Cond.code_spec B.named (atoms_spec (ws := ws) B.pre _ (by rw [hw]; exact List.mem_cons_self))
      cases Option.some.inj (h1.symm.trans B.method)
      cases Option.some.inj (h2.symm.trans (Stand.of_body B).code)
      intro x hx
      rw [Array.isEmpty_iff.mp h7] at hx
      cases hx
    obtain ⟨t, a1, o, b1, b2, b3⟩ := body p e s m args below meth c s₁ B hml ht hP s₁ hh0 (Stand.of_body B)
    exact ⟨t, o, a1, b1, b2, b3⟩
/-- the table of a body with handlers -/
theorem vx_table {p : Program} {x y : MethodName} {S : Spec} {cc bytes : ByteArray} {maxL maxL' : Nat} {ret ret' : Option FieldType} {e : Env} {s s₁ : State} {m : MethodId} {args : Array Value} {below : List Frame} {meth : Method} {c : Code} {hh : List (Nat × Nat × Nat × Nat)}
    (B : BodyLoose p l y S cc maxL ret e s m args below meth c s₁) (h : (Cond.codeWith y bytes maxL' ret' hh).before args s = true) : c.exceptionTable.toList = tableOf hh := by
  obtain ⟨m9, meth9, c9, hn9, h1, h2, -, -, h6, -⟩ := Cond.codeWith_spec h
  cases Option.some.inj (hn9.symm.trans B.named)
  cases Option.some.inj (h1.symm.trans B.method)
  cases Option.some.inj (h2.symm.trans (Stand.of_body B).code)
  rw [← h6, table_eq]
end Bodies
end VXA
/-! ===== END ===== -/
/-! ===== BEGIN a static call of a method with an exception table ===== -/
section VXS
variable {p : Program} {l : Launch} {e : Env} {R : Room} {s : State} {m : MethodId} {args : Array Value} {below : List Frame} {meth : Method} {c : Code} {T : State} {H : Heap} {locs : List Loc} {cells slots : Nat}
abbrev vx_CSW (R : Room) (s : State) (args : Array Value) (own : String) (index : Nat) (y : MethodName) (bytes : ByteArray) (maxL : Nat) (ret : Option FieldType) (hh : List (Nat × Nat × Nat × Nat)) (ws : List Cond) (rm : Room) (mc ms n : Nat) : Prop :=
  (rm.cells = mc ∧ rm.slots = ms ∧ rm.frames + 1 ≤ R.frames ∧ 8 + (maxL + 11) + rm.locals ≤ R.locals ∧ (∀ w ∈ ws, ∀ (a' : Array Value) (U : State), s.WarmedH U.vm → w.before a' U = true) ∧ Cond.codeWith y bytes maxL ret hh ∈ ws) ∧
  (Cond.codeWith y bytes maxL ret hh).before args s = true ∧ (Cond.initialized y.cls).before args s = true ∧ (y.cls ≠ "java/lang/invoke/MethodHandle" ∧ y.cls ≠ "java/lang/invoke/VarHandle") ∧
  (∀ sig, parseMethodDescriptor y.desc = some sig → n = sig.parameters.length) ∧ (Cond.methodLink own index y).before args s = true ∧ (Cond.static y).before args s = true
theorem vx_cwSW {own : String} {index maxL mc ms : Nat} {y : MethodName} {bytes : ByteArray} {ret : Option FieldType} {hh : List (Nat × Nat × Nat × Nat)} {Ts ws ws' : List Cond} {rm : Room} (n : Nat) (ht : ∀ w ∈ Ts, w.before args s = true) (hT : GoodIn Ts (va_wsS own index y ws)) (hw : ws = Cond.codeWith y bytes maxL ret hh :: ws') (hrc : rm.cells = mc) (hrs : rm.slots = ms)
    (hd : y.cls ≠ "java/lang/invoke/MethodHandle" ∧ y.cls ≠ "java/lang/invoke/VarHandle" ∧ (parseMethodDescriptor y.desc).map (fun d => d.parameters.length) = some n) (hR : rm.frames + 1 ≤ R.frames ∧ 8 + (maxL + 11) + rm.locals ≤ R.locals) :
    vx_CSW R s args own index y bytes maxL ret hh ws rm mc ms n := by
  have ok : ∀ w ∈ va_wsS own index y ws, w.before args s = true := fun w h => ht w (hT w h).1
  have hG : GoodIn Ts ws := fun w h => hT w (by unfold va_wsS; exact List.mem_append_right _ h)
  have hc : Cond.codeWith y bytes maxL ret hh ∈ ws := by rw [hw]; exact List.mem_cons_self
  refine ⟨⟨hrc, hrs, hR.1, hR.2, pay_in ht hG, hc⟩, ht _ (hG _ hc).1, ok _ (by simp [va_wsS]), ⟨hd.1, hd.2.1⟩, fun sig h => ?_, ok _ (by simp [va_wsS]), ok _ (by simp [va_wsS])⟩
  have h2 := hd.2.2
  rw [h] at h2
  exact (Option.some.inj h2).symm
theorem vx_callSW (X : Stand p l e R s m args below meth c T locs cells slots) (hexec : p.tables.exec = Jvm.exec) {own : String} {index : Nat} {y : MethodName} {bytes : ByteArray} {maxL : Nat} {ret : Option FieldType} {hh : List (Nat × Nat × Nat × Nat)}
    (hown : s.vm.findClass own = some m.cls) (hlink : (Cond.methodLink own index y).before args s = true) (hstat : (Cond.static y).before args s = true) (hinit : (Cond.initialized y.cls).before args s = true)
    (hcode : (Cond.codeWith y bytes maxL ret hh).before args s = true) (hy : y.cls ≠ "java/lang/invoke/MethodHandle" ∧ y.cls ≠ "java/lang/invoke/VarHandle")
    {W9 : Nat} {Pre : Pt → Array Value → Prop} {Post : Pt → Array Value → Option Value → Pt → Prop} (hK : Back l R p e below s args y 3 W9 Pre Post)
    {g : JFrame} (hg : g.method = m) (hsize : g.locals.size = c.maxLocals) {argsL rest : List Value} (hlen : ∀ sig, parseMethodDescriptor y.desc = some sig → argsL.length = sig.parameters.length)
    (hstack : g.stack = argsL.reverse ++ rest) (hW : 2 * g.monitorRoom + (rest.map fun v => v.category).sum ≤ W9) (hdg : decode c.code g.pc = .ok (.invokestatic index, 3))
    (hpre : ∀ vm₁, s.WarmedH vm₁ → Pre ⟨T.setVm vm₁, locs, cells, slots⟩ argsL.toArray) :
    ∃ (v : Option Value) (vm₁ : Vm) (B : Pt), s.WarmedH vm₁ ∧ Stand p l e R s m args below meth c B.U B.locs B.cells B.slots ∧ Post ⟨T.setVm vm₁, locs, cells, slots⟩ argsL.toArray v B ∧
      ∀ target, Steps p.tables e below (B.U.setTop { g with pc := g.pc + 3, stack := v.toList ++ rest }) target → Steps p.tables e below (T.setTop g) target := by
  obtain ⟨mk, methM, cM, hnamed, hmethM, -, -, -, -, -, -, hsigM⟩ := Cond.codeWith_spec hcode
  have hstatic : methM.isStatic = true := Cond.static_spec hnamed hmethM hstat
  obtain ⟨kP, hkP, -⟩ := className_of_methodNamed hnamed
  have hinitP : kP.init = .initialized := Cond.initialized_spec (findClass_of_methodNamed hnamed) hkP hinit
  obtain ⟨vm₁, X₁, hstep₁⟩ := X.invokestatic hexec hown hlink hnamed hmethM hstatic hkP hinitP hy (g := g) hg (argsL := argsL) (rest := rest) (hlen _ hsigM) hstack hdg
  obtain ⟨v, B, X', hpost, hsteps⟩ := hK m meth c ⟨T.setVm vm₁, locs, cells, slots⟩ { g with stack := rest } (.invokestatic index) mk argsL.toArray X₁ hg hsize hdg hW (X₁.named hnamed) (hpre vm₁ X₁.warmed)
  exact ⟨v, vm₁, B, X₁.warmed, X', hpost, fun target h => hstep₁ _ fun acts => by rw [doInvoke_state]; exact hsteps.trans h⟩
theorem vx_runSW {y : MethodName} {bytes cc : ByteArray} {maxL nL mc ms n index : Nat} {ret : Option FieldType} {hh : List (Nat × Nat × Nat × Nat)} {ws : List Cond} {rm : Room} {Pc : Array Value → State → Prop} {Qc : Array Value → State → Outcome → State → Prop} {free : Addr → Prop} {Ts : List Cond} {own : String} {As rest : List Value} {g : JFrame}
    (S : CallFix p m c cc nL s args Ts own) (hM : Met l y ws rm Pc Qc mc ms free) (cw : vx_CSW R s args own index y bytes maxL ret hh ws rm mc ms n) (hp : PreS s H Pc As)
    (hg : g.method = m) (hn : As.length = n) (hsize : g.locals.size = nL) (hstack : g.stack = As.reverse ++ rest) (hW : 2 * g.monitorRoom + (rest.map fun v => v.category).sum ≤ 8) (hdg : decode cc g.pc = .ok (.invokestatic index, 3)) (hf : cells + mc ≤ R.cells ∧ slots + ms ≤ R.slots) :
    va_Run p l e R s m args below meth c H locs cells slots mc ms g rest (Qc As.toArray) (free) := by
  obtain ⟨⟨hrc, hrs, hfr, hlo, hws, hcw⟩, hcode, hini, hy, hlen, hl, hstt⟩ := cw
  have hK : Back l R p e below s args y 3 8 (PreOf R mc ms Pc) (PostOf Qc mc ms free) := va_backW (hh := hh) (bytes := bytes) (maxL := maxL) (ret := ret) hM hp.1 hrc hrs hfr hlo hws hcw (fun a' U hW => word_at hW (Or.inl (by first | rfl | simp [Cond.onTables, Cond.keeps, Cond.steady])) hini)
  obtain ⟨hx, hb, hml, ho, -⟩ := S
  intro T hT X
  obtain ⟨v, vm₁, ⟨U', l2, c2, s2⟩, hW₁, X', ⟨g', mk, t, L, e1, e2, hq, h1, hL, h2, h3⟩, st⟩ := vx_callSW X hx (hh := hh) (bytes := bytes) (maxL := maxL) (ret := ret) ho hl hstt hini hcode hy hK hg (hsize.trans hml.symm) (argsL := As) (rest := rest) (fun sig h => hn.trans (hlen sig h)) hstack hW (by rw [hb]; exact hdg)
    (fun vm₁ hW₁ => ⟨hf.1, hf.2, hp.2 (T.setVm vm₁) hT hW₁⟩)
  dsimp only [Pt.U, Pt.locs, Pt.cells, Pt.slots] at X' e1 e2 h1 h2 h3 st
  subst h1; subst h2; subst h3
  exact ⟨v, (T.setVm vm₁).calling g' mk As.toArray, t, U', L, hT, X', hL, e1, e2, hq, st⟩
/-- not caught here, past rows that name other classes: it goes on to the caller -/
theorem vx_outP {p : Program} {l : Launch} {e : Env} {R : Room} {s : State} {m : MethodId} {args : Array Value} {below : List Frame} {meth : Method} {c : Code} {H : Heap} {locs : List Loc} {cells slots : Nat} {free : Addr → Prop} {ls : Array Slot} {rest : List Value} {Qc : Array Value → State → Outcome → State → Prop} {XC : String → State → State → Prop}
    {pc : Nat} {own E : String} {ce : Cell} {q : Addr} {mc ms : Nat} (hown : s.vm.findClass own = some m.cls) (hlocks : meth.locks = false)
    (hpass : ∀ z ∈ c.exceptionTable.toList, covers z pc = false ∨ (z.catchType ≠ 0 ∧ ∃ nm : String, (Cond.classLink own z.catchType nm).before args s = true ∧ va_Nc E nm s)) (hcell : H[q]? = some ce) (hv : ce.vm = .none) (hcl : s.vm.findClass E = some ce.cls)
    (hx : ∀ t : State, t.heap = H → s.vm.Alike t.vm → XC E s t) (hf : ∀ z ∈ locs, free z.base) (hc : cells ≤ mc) (hs : slots ≤ ms) :
    vx_W p l e R s m args below meth c H locs cells slots (vx_MQ below Qc XC args s mc ms free) (F0 m pc ls rest) q := by
  intro T hT X
  have hpl : e.platform.magicAccessors = ({} : Platform).magicAccessors := by rw [X.admits.platform]
  obtain ⟨vm', hW', X', st⟩ := X.outThrough hlocks q (g := F0 m pc ls rest) rfl rfl rfl (cell := ce) (by rw [hT]; exact hcell) (by rw [hv]; rfl)
    (by obtain ⟨k9, h9, -⟩ := Vm.findClass_spec hcl; exact ⟨k9, h9⟩) (fun z hz => by
      rcases hpass z hz with h | ⟨hz0, nm, hl1, hn1⟩
      · exact Or.inl h
      · obtain ⟨c6, hc6, hcl6⟩ := Cond.classLink_spec hown hl1 e.platform hpl
        obtain ⟨a8, b8, h1, h2, h3⟩ := hn1
        cases Option.some.inj (h1.symm.trans hcl)
        cases Option.some.inj (h2.symm.trans hc6)
        exact Or.inr ⟨hz0, _, hcl6, h3⟩)
  obtain ⟨g₀, hfr⟩ := X'.frames_eq
  have hcell9 : ((T.setVm vm').setFrames (.throwing q :: below)).heap[q]? = some ce := by
    show T.heap[q]? = some ce
    rw [hT]; exact hcell
  have hend : Ended ((T.setVm vm').setFrames (.throwing q :: below)) below (.threw q) := State.frames_setFrames _ (State.cur_lt_of_frames hfr)
  refine ⟨(T.setVm vm').setFrames (.throwing q :: below), ?_, .threw q, X'.here.running, hend, Or.inr ⟨q, rfl, E, ce, locs, hx _ hT (X'.ends _).1.alike, hcell9, hv, hcl, (X'.ends _).1, (X'.ends _).2.mono hc hs, hf⟩⟩
  rw [X.pushThrowing_eq]
  exact st
/-- a thing of a world lies in the heap -/
theorem vx_lt {D : va_G} {cl : List vw_C} {ws : va_W} {H1 : Heap} (h : va_P D cl ws H1) {k : Nat} {q : Nat × va_E} (hk : ws[k]? = some q) : q.1 < H1.size := (h k q hk).lt
end VXS
/-! ===== END ===== -/
/-! ===== BEGIN methods with a table of their own: called by a name, returning or throwing ===== -/
section VXH
/-! vx_backW, vx_callVX, vx_callSX, vx_callVW, vx_runVW, vx_runVX, vx_runSX, vx_ofWH follow the same proofs as their sisters above (Free/Laws.lean, Shelf42/LK1.lean); vx_outP calls Shelf42/NT130.lean (outThrough). -/
section
variable {l : Launch} {R : Room} {p : Program} {e : Env} {below : List Frame} {s : State} {sargs : Array Value} {y : MethodName} {len W9 : Nat}
theorem vx_backW {ws : List Cond} {rm : Room} {Pc : Array Value → State → Prop} {Qc : Array Value → State → Outcome → State → Prop} {XC : String → State → State → Prop} {mc ms : Nat} {free : Addr → Prop} {bytes : ByteArray} {maxL : Nat} {ret : Option FieldType} {hh : List (Nat × Nat × Nat × Nat)}
    (hM : vx_Met l y ws rm Pc Qc XC mc ms free) (hblind : FrameBlind Pc) (hrc : rm.cells = mc) (hrs : rm.slots = ms)
    (hframes : rm.frames + 1 ≤ R.frames) (hlocals : W9 + (maxL + 11) + rm.locals ≤ R.locals)
    (hws : ∀ w ∈ ws, ∀ a' U, s.WarmedH U.vm → w.before a' U = true) (hcode : Cond.codeWith y bytes maxL ret hh ∈ ws) (hinit : ∀ a' U, s.WarmedH U.vm → (Cond.initialized y.cls).before a' U = true) :
    vx_Back l R p e below s sargs y len W9 (PreOf R mc ms Pc) (PostOf Qc mc ms free) (vx_Post XC mc ms free) := by
  intro m meth c A g ig mk a X hg hsize hdg hW hn hp
  have h1 : (headSpec ws rm).pre.before a A.U = true := atoms_intro fun w hw => hws w hw _ _ X.warmed
  have h2 : (Cond.codeWith y bytes maxL ret hh).before a A.U = true := hws _ hcode _ _ X.warmed
  have h3 : (Cond.initialized y.cls).before a A.U = true := hinit _ _ X.warmed
  have h4 : A.cells + (headSpec ws rm).room.cells ≤ R.cells := by rw [show (headSpec ws rm).room.cells = mc from hrc]; exact hp.1
  have h5 : A.slots + (headSpec ws rm).room.slots ≤ R.slots := by rw [show (headSpec ws rm).room.slots = ms from hrs]; exact hp.2.1
  have hPc : Pc a (A.U.calling g mk a) := hblind _ _ _ _ hp.2.2
  obtain ⟨U, Ls, c0, s0⟩ := A
  dsimp only [Pt.U, Pt.locs, Pt.cells, Pt.slots] at h1 h2 h3 h4 h5 X hn hPc ⊢
  obtain ⟨m9, methY, cY, hn9, hmY, hcY, -, hlY, -⟩ := Cond.codeWith_spec h2
  cases Option.some.inj (hn9.symm.trans hn)
  obtain ⟨kY, hkY, -⟩ := className_of_methodNamed hn
  have hinitY : kY.init = .initialized := Cond.initialized_spec (findClass_of_methodNamed hn) hkY h3
  have h : At U g.method c below := by rw [hg]; exact X.here
  have hlocals9 : W9 + (maxL + 11) + (headSpec ws rm).room.locals ≤ R.locals := hlocals
  have happ : (headSpec ws rm).appliesLoose y e.platform (U.calling g mk a) = true :=
    Spec.appliesLoose_calling (g := g) h hdg hn hkY hinitY
      (X.room_calling (g := g) (R' := (headSpec ws rm).room) hsize hmY hcY hframes (by rw [hlY]; omega) h4 h5) h1
  obtain ⟨mid, hmid⟩ := h.above
  have hfr : (U.setTop g).frames = (.java g :: mid) ++ below := by rw [State.frames_setTop' g h.top, hmid]; rfl
  obtain ⟨o, s₂, hsteps, -, hend, hq⟩ := Steps.callFree hM p X.admits X.cas X.clock (acts := []) hfr happ hPc trivial
  have hq' : vx_Q Qc XC mc ms free a (U.calling g mk a) o s₂ := hq
  rw [State.frames_setTop' g h.top] at hend
  obtain ⟨g₀, hg0⟩ := Option.isSome_iff_exists.mp h.top
  obtain ⟨r, hr⟩ := State.topJava?_eq_some.mp hg0
  have hr' : (({ U with heap := s₂.heap, slotsUsed := s₂.slotsUsed } : State).setVm s₂.vm).frames = .java g₀ :: r := hr
  rcases hq' with ⟨hqc, L, hfe, hL⟩ | ⟨q, rfl, E, ce, L, hx, hce, hcv, hcl, hW₂, hsm, hL⟩
  · obtain ⟨⟨v, rfl⟩, hW₂, e2, q2, q3, q4, q5, q6⟩ := id hfe
    have e3 : s₂ = ({ (U.calling g mk a).setFrames s₂.frames with heap := s₂.heap, slotsUsed := s₂.slotsUsed } : State).setVm s₂.vm := by
      have : s₂ = ({ s₂ with vm := (U.calling g mk a).vm } : State).setVm s₂.vm := rfl
      rw [e2] at this
      exact this
    obtain ⟨c₂, i₂, len₂, hc₂, hd₂, hf₂⟩ := hend
    have hW' : U.WarmedH s₂.vm := hW₂
    have hcc : c₂ = c := by
      have h1 : s₂.code? g.method = U.code? g.method := by
        rw [State.code?_eq, State.code?_eq, hW'.alike.method?]
      exact Option.some.inj (hc₂.symm.trans (h1.trans h.code))
    subst hcc
    have hlen : len₂ = len := by rw [hdg] at hd₂; cases hd₂; rfl
    subst hlen
    have hs₂ : s₂ = (({ U with heap := s₂.heap, slotsUsed := s₂.slotsUsed } : State).setVm s₂.vm).setTop { g with pc := g.pc + len₂, stack := v.toList ++ g.stack } := by
      refine e3.trans ?_
      rw [hf₂, State.calling_eq h.top, State.setFrames_setFrames, State.setTop_of_frames _ hr', hr]
      rfl
    have hsame : U.sameButNew ({ U with heap := s₂.heap, slotsUsed := s₂.slotsUsed } : State) L mc ms := by
      refine ⟨?_, q2, q3, q4, q5, q6⟩
      obtain ⟨t, ht, -⟩ := State.frames_cons hr
      show ({ U with heap := s₂.heap, slotsUsed := s₂.slotsUsed } : State) = { U.setFrames U.frames with heap := s₂.heap, slotsUsed := s₂.slotsUsed }
      rw [State.setFrames_self ht]
    subst hg
    refine Or.inl ⟨v, ⟨(({ U with heap := s₂.heap, slotsUsed := s₂.slotsUsed } : State).setVm s₂.vm), Ls ++ L, c0 + mc, s0 + ms⟩,
      ⟨X.admits, X.cas, X.clock, X.frames, X.room, X.hears, X.method, X.code, (X.here.setHeapUsed s₂.heap s₂.slotsUsed).setVm hW'.alike, X.tail, State.WarmedH.trans X.warmed hW', X.limits, X.bytes, X.same.trans (hsame.setVm s.vm)⟩,
      ⟨g, mk, s₂, L, rfl, rfl, hqc, rfl, hL, rfl, rfl⟩, ?_⟩
    show Steps p.tables e below _ ((({ U with heap := s₂.heap, slotsUsed := s₂.slotsUsed } : State).setVm s₂.vm).setTop { g with pc := g.pc + len₂, stack := v.toList ++ g.stack })
    rw [← hs₂]
    exact hsteps
  · obtain ⟨e2, q2, q3, q4, q5, q6⟩ := id hsm
    have e3 : s₂ = ({ (U.calling g mk a).setFrames s₂.frames with heap := s₂.heap, slotsUsed := s₂.slotsUsed } : State).setVm s₂.vm := by
      have : s₂ = ({ s₂ with vm := (U.calling g mk a).vm } : State).setVm s₂.vm := rfl
      rw [e2] at this
      exact this
    have hf₂ : s₂.frames = .throwing q :: .java g :: U.frames.tail := hend
    have hW' : U.WarmedH s₂.vm := hW₂
    have hs₂ : s₂ = ((({ U with heap := s₂.heap, slotsUsed := s₂.slotsUsed } : State).setVm s₂.vm).setTop g).pushFrame (.throwing q) := by
      refine e3.trans ?_
      rw [hf₂, State.calling_eq h.top, State.setFrames_setFrames, State.pushFrame, State.frames_setTop _ hr', State.setTop_of_frames _ hr', State.setFrames_setFrames, hr]
      rfl
    have hsame : U.sameButNew ({ U with heap := s₂.heap, slotsUsed := s₂.slotsUsed } : State) L mc ms := by
      refine ⟨?_, q2, q3, q4, q5, q6⟩
      obtain ⟨t, ht, -⟩ := State.frames_cons hr
      show ({ U with heap := s₂.heap, slotsUsed := s₂.slotsUsed } : State) = { U.setFrames U.frames with heap := s₂.heap, slotsUsed := s₂.slotsUsed }
      rw [State.setFrames_self ht]
    subst hg
    refine Or.inr ⟨q, ⟨(({ U with heap := s₂.heap, slotsUsed := s₂.slotsUsed } : State).setVm s₂.vm), Ls ++ L, c0 + mc, s0 + ms⟩,
      ⟨X.admits, X.cas, X.clock, X.frames, X.room, X.hears, X.method, X.code, (X.here.setHeapUsed s₂.heap s₂.slotsUsed).setVm hW'.alike, X.tail, State.WarmedH.trans X.warmed hW', X.limits, X.bytes, X.same.trans (hsame.setVm s.vm)⟩,
      ⟨g, mk, s₂, L, E, ce, rfl, rfl, hx, hce, hcv, hcl, rfl, hL, rfl, rfl⟩, ?_⟩
    show Steps p.tables e below _ (((({ U with heap := s₂.heap, slotsUsed := s₂.slotsUsed } : State).setVm s₂.vm).setTop g).pushFrame (.throwing q))
    rw [← hs₂]
    exact hsteps
end
variable {p : Program} {l : Launch} {e : Env} {R : Room} {s : State} {m : MethodId} {args : Array Value} {below : List Frame} {meth : Method} {c : Code} {T : State} {H : Heap} {locs : List Loc} {cells slots : Nat}
theorem vx_callVX (X : Stand p l e R s m args below meth c T locs cells slots) (hexec : p.tables.exec = Jvm.exec) {own C : String} {index : Nat} {y : MethodName} {bytes : ByteArray} {maxL : Nat} {ret : Option FieldType} {hh : List (Nat × Nat × Nat × Nat)}
    (hown : s.vm.findClass own = some m.cls) (hlink : (Cond.methodLink own index y).before args s = true) (hinst : (Cond.instanceMethod y).before args s = true) (hsel : (Cond.selects C y y).before args s = true)
    (hcode : (Cond.codeWith y bytes maxL ret hh).before args s = true) (hy : y.cls ≠ "java/lang/invoke/MethodHandle" ∧ y.cls ≠ "java/lang/invoke/VarHandle")
    {W9 : Nat} {Pre : Pt → Array Value → Prop} {Post : Pt → Array Value → Option Value → Pt → Prop} {PostX : Pt → Array Value → Addr → Pt → Prop} (hK : vx_Back l R p e below s args y 3 W9 Pre Post PostX)
    {b : Addr} {cellB : Cell} (hcell : T.heap[b]? = some cellB) (hobj : cellB.vm.isStatics = false) (hcls : s.vm.findClass C = some cellB.cls)
    {g : JFrame} (hg : g.method = m) (hsize : g.locals.size = c.maxLocals) {argsL rest : List Value} (hlen : ∀ sig, parseMethodDescriptor y.desc = some sig → argsL.length = sig.parameters.length)
    (hstack : g.stack = argsL.reverse ++ .ref b :: rest) (hW : 2 * g.monitorRoom + (rest.map fun v => v.category).sum ≤ W9) (hdg : decode c.code g.pc = .ok (.invokevirtual index, 3))
    (hpre : ∀ vm₁, s.WarmedH vm₁ → Pre ⟨T.setVm vm₁, locs, cells, slots⟩ (Value.ref b :: argsL).toArray) :
    (∃ (v : Option Value) (vm₁ : Vm) (B : Pt), s.WarmedH vm₁ ∧ Stand p l e R s m args below meth c B.U B.locs B.cells B.slots ∧ Post ⟨T.setVm vm₁, locs, cells, slots⟩ (Value.ref b :: argsL).toArray v B ∧
      ∀ target, Steps p.tables e below (B.U.setTop { g with pc := g.pc + 3, stack := v.toList ++ rest }) target → Steps p.tables e below (T.setTop g) target) ∨
    (∃ (q : Addr) (vm₁ : Vm) (B : Pt), s.WarmedH vm₁ ∧ Stand p l e R s m args below meth c B.U B.locs B.cells B.slots ∧ PostX ⟨T.setVm vm₁, locs, cells, slots⟩ (Value.ref b :: argsL).toArray q B ∧
      Steps p.tables e below (T.setTop g) ((B.U.setTop { g with stack := rest }).pushFrame (.throwing q))) := by
  obtain ⟨mk, methM, hnamed, hmethM, hstM, habM⟩ := Cond.instanceMethod_spec hinst
  obtain ⟨m8, methM', cM, hn8, hmethM', -, -, -, -, -, -, hsigM⟩ := Cond.codeWith_spec hcode
  cases Option.some.inj (hn8.symm.trans hnamed)
  cases hmethM.symm.trans hmethM'
  obtain ⟨c2, r2, m2, q1, q2, q3, q4, kP, hkP, hkPi⟩ := Cond.selects_spec hsel
  cases hcls.symm.trans q1
  cases (State.methodFound?_of_named hnamed hy).symm.trans q2
  cases hnamed.symm.trans q3
  have hselP : selectMethod e.platform s.vm cellB.cls mk = .method mk := by rw [Launch.admits_selectMethod X.admits]; exact q4
  obtain ⟨vm₁, X₁, hstep₁⟩ := X.invokevirtual hexec hown hlink hnamed hmethM hstM hkP hkPi hy (a := b) (cell := cellB) hcell
    (fun z h => by rw [h] at hobj; cases hobj) hselP hmethM habM hkP hkPi (g := g) hg (argsL := argsL) (rest := rest) (hlen _ hsigM) hstack hdg
  rcases hK m meth c ⟨T.setVm vm₁, locs, cells, slots⟩ { g with stack := rest } (.invokevirtual index) mk (Value.ref b :: argsL).toArray X₁ hg hsize hdg hW (X₁.named hnamed) (hpre vm₁ X₁.warmed) with ⟨v, B, X', hpost, hsteps⟩ | ⟨q, B, X', hpost, hsteps⟩
  · exact Or.inl ⟨v, vm₁, B, X₁.warmed, X', hpost, fun target h => hstep₁ _ fun acts => by rw [doInvoke_state]; exact hsteps.trans h⟩
  · exact Or.inr ⟨q, vm₁, B, X₁.warmed, X', hpost, hstep₁ _ fun acts => by rw [doInvoke_state]; exact hsteps⟩
theorem vx_callSX (X : Stand p l e R s m args below meth c T locs cells slots) (hexec : p.tables.exec = Jvm.exec) {own : String} {index : Nat} {y : MethodName} {bytes : ByteArray} {maxL : Nat} {ret : Option FieldType} {hh : List (Nat × Nat × Nat × Nat)}
    (hown : s.vm.findClass own = some m.cls) (hlink : (Cond.methodLink own index y).before args s = true) (hstat : (Cond.static y).before args s = true) (hinit : (Cond.initialized y.cls).before args s = true)
    (hcode : (Cond.codeWith y bytes maxL ret hh).before args s = true) (hy : y.cls ≠ "java/lang/invoke/MethodHandle" ∧ y.cls ≠ "java/lang/invoke/VarHandle")
    {W9 : Nat} {Pre : Pt → Array Value → Prop} {Post : Pt → Array Value → Option Value → Pt → Prop} {PostX : Pt → Array Value → Addr → Pt → Prop} (hK : vx_Back l R p e below s args y 3 W9 Pre Post PostX)
    {g : JFrame} (hg : g.method = m) (hsize : g.locals.size = c.maxLocals) {argsL rest : List Value} (hlen : ∀ sig, parseMethodDescriptor y.desc = some sig → argsL.length = sig.parameters.length)
    (hstack : g.stack = argsL.reverse ++ rest) (hW : 2 * g.monitorRoom + (rest.map fun v => v.category).sum ≤ W9) (hdg : decode c.code g.pc = .ok (.invokestatic index, 3))
    (hpre : ∀ vm₁, s.WarmedH vm₁ → Pre ⟨T.setVm vm₁, locs, cells, slots⟩ argsL.toArray) :
    (∃ (v : Option Value) (vm₁ : Vm) (B : Pt), s.WarmedH vm₁ ∧ Stand p l e R s m args below meth c B.U B.locs B.cells B.slots ∧ Post ⟨T.setVm vm₁, locs, cells, slots⟩ argsL.toArray v B ∧
      ∀ target, Steps p.tables e below (B.U.setTop { g with pc := g.pc + 3, stack := v.toList ++ rest }) target → Steps p.tables e below (T.setTop g) target) ∨
    (∃ (q : Addr) (vm₁ : Vm) (B : Pt), s.WarmedH vm₁ ∧ Stand p l e R s m args below meth c B.U B.locs B.cells B.slots ∧ PostX ⟨T.setVm vm₁, locs, cells, slots⟩ argsL.toArray q B ∧
      Steps p.tables e below (T.setTop g) ((B.U.setTop { g with stack := rest }).pushFrame (.throwing q))) := by
  obtain ⟨mk, methM, cM, hnamed, hmethM, -, -, -, -, -, -, hsigM⟩ := Cond.codeWith_spec hcode
  have hstatic : methM.isStatic = true := Cond.static_spec hnamed hmethM hstat
  obtain ⟨kP, hkP, -⟩ := className_of_methodNamed hnamed
  have hinitP : kP.init = .initialized := Cond.initialized_spec (findClass_of_methodNamed hnamed) hkP hinit
  obtain ⟨vm₁, X₁, hstep₁⟩ := X.invokestatic hexec hown hlink hnamed hmethM hstatic hkP hinitP hy (g := g) hg (argsL := argsL) (rest := rest) (hlen _ hsigM) hstack hdg
  rcases hK m meth c ⟨T.setVm vm₁, locs, cells, slots⟩ { g with stack := rest } (.invokestatic index) mk argsL.toArray X₁ hg hsize hdg hW (X₁.named hnamed) (hpre vm₁ X₁.warmed) with ⟨v, B, X', hpost, hsteps⟩ | ⟨q, B, X', hpost, hsteps⟩
  · exact Or.inl ⟨v, vm₁, B, X₁.warmed, X', hpost, fun target h => hstep₁ _ fun acts => by rw [doInvoke_state]; exact hsteps.trans h⟩
  · exact Or.inr ⟨q, vm₁, B, X₁.warmed, X', hpost, hstep₁ _ fun acts => by rw [doInvoke_state]; exact hsteps⟩
theorem vx_callVW (X : Stand p l e R s m args below meth c T locs cells slots) (hexec : p.tables.exec = Jvm.exec) {own C : String} {index : Nat} {y : MethodName} {bytes : ByteArray} {maxL : Nat} {ret : Option FieldType} {hh : List (Nat × Nat × Nat × Nat)}
    (hown : s.vm.findClass own = some m.cls) (hlink : (Cond.methodLink own index y).before args s = true) (hinst : (Cond.instanceMethod y).before args s = true) (hsel : (Cond.selects C y y).before args s = true)
    (hcode : (Cond.codeWith y bytes maxL ret hh).before args s = true) (hy : y.cls ≠ "java/lang/invoke/MethodHandle" ∧ y.cls ≠ "java/lang/invoke/VarHandle")
    {W9 : Nat} {Pre : Pt → Array Value → Prop} {Post : Pt → Array Value → Option Value → Pt → Prop} (hK : Back l R p e below s args y 3 W9 Pre Post)
    {b : Addr} {cellB : Cell} (hcell : T.heap[b]? = some cellB) (hobj : cellB.vm.isStatics = false) (hcls : s.vm.findClass C = some cellB.cls)
    {g : JFrame} (hg : g.method = m) (hsize : g.locals.size = c.maxLocals) {argsL rest : List Value} (hlen : ∀ sig, parseMethodDescriptor y.desc = some sig → argsL.length = sig.parameters.length)
    (hstack : g.stack = argsL.reverse ++ .ref b :: rest) (hW : 2 * g.monitorRoom + (rest.map fun v => v.category).sum ≤ W9) (hdg : decode c.code g.pc = .ok (.invokevirtual index, 3))
    (hpre : ∀ vm₁, s.WarmedH vm₁ → Pre ⟨T.setVm vm₁, locs, cells, slots⟩ (Value.ref b :: argsL).toArray) :
    ∃ (v : Option Value) (vm₁ : Vm) (B : Pt), s.WarmedH vm₁ ∧ Stand p l e R s m args below meth c B.U B.locs B.cells B.slots ∧ Post ⟨T.setVm vm₁, locs, cells, slots⟩ (Value.ref b :: argsL).toArray v B ∧
      ∀ target, Steps p.tables e below (B.U.setTop { g with pc := g.pc + 3, stack := v.toList ++ rest }) target → Steps p.tables e below (T.setTop g) target := by
  obtain ⟨mk, methM, hnamed, hmethM, hstM, habM⟩ := Cond.instanceMethod_spec hinst
  obtain ⟨m8, methM', cM, hn8, hmethM', -, -, -, -, -, -, hsigM⟩ := Cond.codeWith_spec hcode
  cases Option.some.inj (hn8.symm.trans hnamed)
  cases hmethM.symm.trans hmethM'
  obtain ⟨c2, r2, m2, q1, q2, q3, q4, kP, hkP, hkPi⟩ := Cond.selects_spec hsel
  cases hcls.symm.trans q1
  cases (State.methodFound?_of_named hnamed hy).symm.trans q2
  cases hnamed.symm.trans q3
  have hselP : selectMethod e.platform s.vm cellB.cls mk = .method mk := by rw [Launch.admits_selectMethod X.admits]; exact q4
  obtain ⟨vm₁, X₁, hstep₁⟩ := X.invokevirtual hexec hown hlink hnamed hmethM hstM hkP hkPi hy (a := b) (cell := cellB) hcell
    (fun z h => by rw [h] at hobj; cases hobj) hselP hmethM habM hkP hkPi (g := g) hg (argsL := argsL) (rest := rest) (hlen _ hsigM) hstack hdg
  obtain ⟨v, B, X', hpost, hsteps⟩ := hK m meth c ⟨T.setVm vm₁, locs, cells, slots⟩ { g with stack := rest } (.invokevirtual index) mk (Value.ref b :: argsL).toArray X₁ hg hsize hdg hW (X₁.named hnamed) (hpre vm₁ X₁.warmed)
  exact ⟨v, vm₁, B, X₁.warmed, X', hpost, fun target h => hstep₁ _ fun acts => by rw [doInvoke_state]; exact hsteps.trans h⟩
abbrev vx_CVW (R : Room) (s : State) (args : Array Value) (own C : String) (index : Nat) (y : MethodName) (bytes : ByteArray) (maxL : Nat) (ret : Option FieldType) (hh : List (Nat × Nat × Nat × Nat)) (ws : List Cond) (rm : Room) (mc ms n : Nat) : Prop :=
  (rm.cells = mc ∧ rm.slots = ms ∧ rm.frames + 1 ≤ R.frames ∧ 8 + (maxL + 11) + rm.locals ≤ R.locals ∧ (∀ w ∈ ws, ∀ (a' : Array Value) (U : State), s.WarmedH U.vm → w.before a' U = true) ∧ Cond.codeWith y bytes maxL ret hh ∈ ws) ∧
  (Cond.codeWith y bytes maxL ret hh).before args s = true ∧ (Cond.initialized y.cls).before args s = true ∧ (y.cls ≠ "java/lang/invoke/MethodHandle" ∧ y.cls ≠ "java/lang/invoke/VarHandle") ∧
  (∀ sig, parseMethodDescriptor y.desc = some sig → n = sig.parameters.length) ∧ (Cond.methodLink own index y).before args s = true ∧ (Cond.instanceMethod y).before args s = true ∧ (Cond.selects C y y).before args s = true
theorem vx_cwVW {own C : String} {index maxL mc ms : Nat} {y : MethodName} {bytes : ByteArray} {ret : Option FieldType} {hh : List (Nat × Nat × Nat × Nat)} {Ts ws ws' : List Cond} {rm : Room} (n : Nat) (ht : ∀ w ∈ Ts, w.before args s = true) (hT : GoodIn Ts (wsV own index C y ws)) (hw : ws = Cond.codeWith y bytes maxL ret hh :: ws') (hrc : rm.cells = mc) (hrs : rm.slots = ms)
    (hd : y.cls = C ∧ y.cls ≠ "java/lang/invoke/MethodHandle" ∧ y.cls ≠ "java/lang/invoke/VarHandle" ∧ (parseMethodDescriptor y.desc).map (fun d => d.parameters.length) = some n) (hR : rm.frames + 1 ≤ R.frames ∧ 8 + (maxL + 11) + rm.locals ≤ R.locals) :
    vx_CVW R s args own C index y bytes maxL ret hh ws rm mc ms n := by
  obtain ⟨hC, hd⟩ := hd
  subst hC
  have ok : ∀ w ∈ wsV own index y.cls y ws, w.before args s = true := fun w h => ht w (hT w h).1
  have hG : GoodIn Ts ws := fun w h => hT w (by unfold wsV; exact List.mem_append_right _ h)
  have hc : Cond.codeWith y bytes maxL ret hh ∈ ws := by rw [hw]; exact List.mem_cons_self
  refine ⟨⟨hrc, hrs, hR.1, hR.2, pay_in ht hG, hc⟩, ht _ (hG _ hc).1, ok _ (by simp [wsV]), ⟨hd.1, hd.2.1⟩, fun sig h => ?_, ok _ (by simp [wsV]), ok _ (by simp [wsV]), ok _ (by simp [wsV])⟩
  have h2 := hd.2.2
  rw [h] at h2
  exact (Option.some.inj h2).symm
theorem vx_runVW {y : MethodName} {bytes cc : ByteArray} {maxL nL mc ms n index : Nat} {ret : Option FieldType} {hh : List (Nat × Nat × Nat × Nat)} {ws : List Cond} {rm : Room} {Pc : Array Value → State → Prop} {Qc : Array Value → State → Outcome → State → Prop} {free : Addr → Prop} {Ts : List Cond} {own C : String} {b : Addr} {As rest : List Value} {g : JFrame}
    (S : CallFix p m c cc nL s args Ts own) (hM : Met l y ws rm Pc Qc mc ms free) (cw : vx_CVW R s args own C index y bytes maxL ret hh ws rm mc ms n) (hp : PreV s H C b Pc As)
    (hg : g.method = m) (hn : As.length = n) (hsize : g.locals.size = nL) (hstack : g.stack = As.reverse ++ .ref b :: rest) (hW : 2 * g.monitorRoom + (rest.map fun v => v.category).sum ≤ 8) (hdg : decode cc g.pc = .ok (.invokevirtual index, 3)) (hf : cells + mc ≤ R.cells ∧ slots + ms ≤ R.slots) :
    va_Run p l e R s m args below meth c H locs cells slots mc ms g rest (Qc (Value.ref b :: As).toArray) free := by
  obtain ⟨⟨hrc, hrs, hfr, hlo, hws, hcw⟩, hcode, hini, hy, hlen, hl, hin, hse⟩ := cw
  have hK : Back l R p e below s args y 3 8 (PreOf R mc ms Pc) (PostOf Qc mc ms free) := va_backW (hh := hh) (bytes := bytes) (maxL := maxL) (ret := ret) hM hp.1 hrc hrs hfr hlo hws hcw (fun a' U hW => word_at hW (Or.inl (by first | rfl | simp [Cond.onTables, Cond.keeps, Cond.steady])) hini)
  obtain ⟨hx, hb, hml, ho, -⟩ := S
  obtain ⟨-, ⟨cellB, hcB, hoB, hclB⟩, hPc⟩ := hp
  intro T hT X
  obtain ⟨v, vm₁, ⟨U', l2, c2, s2⟩, hW₁, X', ⟨g', mk, t, L, e1, e2, hq, h1, hL, h2, h3⟩, st⟩ := vx_callVW X hx (C := C) (hh := hh) (bytes := bytes) (maxL := maxL) (ret := ret) ho hl hin hse hcode hy hK (by rw [hT]; exact hcB) hoB hclB hg (hsize.trans hml.symm) (argsL := As) (rest := rest) (fun sig h => hn.trans (hlen sig h)) hstack hW (by rw [hb]; exact hdg)
    (fun vm₁ hW₁ => ⟨hf.1, hf.2, hPc (T.setVm vm₁) hT hW₁⟩)
  dsimp only [Pt.U, Pt.locs, Pt.cells, Pt.slots] at X' e1 e2 h1 h2 h3 st
  subst h1; subst h2; subst h3
  exact ⟨v, (T.setVm vm₁).calling g' mk (Value.ref b :: As).toArray, t, U', L, hT, X', hL, e1, e2, hq, st⟩
section
variable {y : MethodName} {bytes cc : ByteArray} {maxL nL mc ms n index : Nat} {ret : Option FieldType} {ws : List Cond} {rm : Room} {Pc : Array Value → State → Prop} {Qc : Array Value → State → Outcome → State → Prop} {XC : String → State → State → Prop} {free : Addr → Prop} {Ts : List Cond} {own C : String} {b : Addr} {As rest : List Value} {g : JFrame}
theorem vx_runVX {hh : List (Nat × Nat × Nat × Nat)} (S : CallFix p m c cc nL s args Ts own) (hM : vx_Met l y ws rm Pc Qc XC mc ms free) (cw : vx_CVW R s args own C index y bytes maxL ret hh ws rm mc ms n) (hp : PreV s H C b Pc As)
    (hg : g.method = m) (hn : As.length = n) (hsize : g.locals.size = nL) (hstack : g.stack = As.reverse ++ .ref b :: rest) (hW : 2 * g.monitorRoom + (rest.map fun v => v.category).sum ≤ 8) (hdg : decode cc g.pc = .ok (.invokevirtual index, 3)) (hf : cells + mc ≤ R.cells ∧ slots + ms ≤ R.slots) :
    vx_Run p l e R s m args below meth c H locs cells slots mc ms g rest (Qc (Value.ref b :: As).toArray) XC free := by
  obtain ⟨⟨hrc, hrs, hfr, hlo, hws, hcw⟩, hcode, hini, hy, hlen, hl, hin, hse⟩ := cw
  have hK : vx_Back l R p e below s args y 3 8 (PreOf R mc ms Pc) (PostOf Qc mc ms free) (vx_Post XC mc ms free) := vx_backW (hh := hh) (bytes := bytes) (maxL := maxL) (ret := ret) hM hp.1 hrc hrs hfr hlo hws hcw (fun a' U hW => word_at hW (Or.inl (by first | rfl | simp [Cond.onTables, Cond.keeps, Cond.steady])) hini)
  obtain ⟨hx, hb, hml, ho, -⟩ := S
  obtain ⟨-, ⟨cellB, hcB, hoB, hclB⟩, hPc⟩ := hp
  intro T hT X
  rcases vx_callVX X hx (C := C) (hh := hh) (bytes := bytes) (maxL := maxL) (ret := ret) ho hl hin hse hcode hy hK (by rw [hT]; exact hcB) hoB hclB hg (hsize.trans hml.symm) (argsL := As) (rest := rest) (fun sig h => hn.trans (hlen sig h)) hstack hW (by rw [hb]; exact hdg)
    (fun vm₁ hW₁ => ⟨hf.1, hf.2, hPc (T.setVm vm₁) hT hW₁⟩) with ⟨v, vm₁, ⟨U', l2, c2, s2⟩, hW₁, X', ⟨g', mk, t, L, e1, e2, hq, h1, hL, h2, h3⟩, st⟩ | ⟨q, vm₁, ⟨U', l2, c2, s2⟩, hW₁, X', ⟨g', mk, t, L, E, ce, e1, e2, hq, hce, hcv, hcl, h1, hL, h2, h3⟩, st⟩
  · dsimp only [Pt.U, Pt.locs, Pt.cells, Pt.slots] at X' e1 e2 h1 h2 h3 st
    subst h1; subst h2; subst h3
    exact Or.inl ⟨v, (T.setVm vm₁).calling g' mk (Value.ref b :: As).toArray, t, U', L, hT, X', hL, e1, e2, hq, st⟩
  · dsimp only [Pt.U, Pt.locs, Pt.cells, Pt.slots] at X' e1 e2 h1 h2 h3 st hcl
    subst h1; subst h2; subst h3
    exact Or.inr ⟨q, (T.setVm vm₁).calling g' mk (Value.ref b :: As).toArray, t, U', L, E, ce, hT, X', hL, e1, e2, hq, hce, hcv, vx_cls hW₁ hcl, st⟩
theorem vx_runSX {hh : List (Nat × Nat × Nat × Nat)} (S : CallFix p m c cc nL s args Ts own) (hM : vx_Met l y ws rm Pc Qc XC mc ms free) (cw : vx_CSW R s args own index y bytes maxL ret hh ws rm mc ms n) (hp : PreS s H Pc As)
    (hg : g.method = m) (hn : As.length = n) (hsize : g.locals.size = nL) (hstack : g.stack = As.reverse ++ rest) (hW : 2 * g.monitorRoom + (rest.map fun v => v.category).sum ≤ 8) (hdg : decode cc g.pc = .ok (.invokestatic index, 3)) (hf : cells + mc ≤ R.cells ∧ slots + ms ≤ R.slots) :
    vx_Run p l e R s m args below meth c H locs cells slots mc ms g rest (Qc As.toArray) XC free := by
  obtain ⟨⟨hrc, hrs, hfr, hlo, hws, hcw⟩, hcode, hini, hy, hlen, hl, hstt⟩ := cw
  have hK : vx_Back l R p e below s args y 3 8 (PreOf R mc ms Pc) (PostOf Qc mc ms free) (vx_Post XC mc ms free) := vx_backW (hh := hh) (bytes := bytes) (maxL := maxL) (ret := ret) hM hp.1 hrc hrs hfr hlo hws hcw (fun a' U hW => word_at hW (Or.inl (by first | rfl | simp [Cond.onTables, Cond.keeps, Cond.steady])) hini)
  obtain ⟨hx, hb, hml, ho, -⟩ := S
  intro T hT X
  rcases vx_callSX X hx (hh := hh) (bytes := bytes) (maxL := maxL) (ret := ret) ho hl hstt hini hcode hy hK hg (hsize.trans hml.symm) (argsL := As) (rest := rest) (fun sig h => hn.trans (hlen sig h)) hstack hW (by rw [hb]; exact hdg)
    (fun vm₁ hW₁ => ⟨hf.1, hf.2, hp.2 (T.setVm vm₁) hT hW₁⟩) with ⟨v, vm₁, ⟨U', l2, c2, s2⟩, hW₁, X', ⟨g', mk, t, L, e1, e2, hq, h1, hL, h2, h3⟩, st⟩ | ⟨q, vm₁, ⟨U', l2, c2, s2⟩, hW₁, X', ⟨g', mk, t, L, E, ce, e1, e2, hq, hce, hcv, hcl, h1, hL, h2, h3⟩, st⟩
  · dsimp only [Pt.U, Pt.locs, Pt.cells, Pt.slots] at X' e1 e2 h1 h2 h3 st
    subst h1; subst h2; subst h3
    exact Or.inl ⟨v, (T.setVm vm₁).calling g' mk As.toArray, t, U', L, hT, X', hL, e1, e2, hq, st⟩
  · dsimp only [Pt.U, Pt.locs, Pt.cells, Pt.slots] at X' e1 e2 h1 h2 h3 st hcl
    subst h1; subst h2; subst h3
    exact Or.inr ⟨q, (T.setVm vm₁).calling g' mk As.toArray, t, U', L, E, ce, hT, X', hL, e1, e2, hq, hce, hcv, vx_cls hW₁ hcl, st⟩
end
end VXH
theorem vx_ofWH {l : Launch} {y : MethodName} {ws ws' : List Cond} {rm : Room} {Pc : Array Value → State → Prop} {Qc : Array Value → State → Outcome → State → Prop} {XC : String → State → State → Prop} {mc ms : Nat} {free : Addr → Prop} {cc : ByteArray} {maxL : Nat} {ret : Option FieldType} {hh : List (Nat × Nat × Nat × Nat)}
    (hy : plainName y.cls = true) (hw : ws = Cond.codeWith y cc maxL ret hh :: ws')
    (body : ∀ p e s m args below meth c s₁, BodyLoose p l y (headSpec ws rm) cc maxL ret e s m args below meth c s₁ → c.maxLocals = maxL → Pc args s →
      W p l e (headSpec ws rm).room s m args below meth c s.heap [] 0 0 (vx_MQ below Qc XC args s mc ms free) (entryFrame m args maxL)) : vx_Met l y ws rm Pc Qc XC mc ms free := by
  refine MetFree.of_bodyS (code := cc) (maxLocals := maxL) (ret := ret) hy ?_ ?_
  · intro args s m h hn
    obtain ⟨m9, meth, c, hn9, h1, h2, h3, h4, -, h5, h6, -⟩ := Cond.codeWith_spec (atoms_spec (ws := ws) h _ (by rw [hw]; exact List.mem_cons_self))
    cases hn.symm.trans hn9
    exact ⟨meth, c, h1, h2, h3, h4, h5, h6⟩
  · intro p e s m args below meth c s₁ B hml hP _
    have hh0 : s₁.heap = s.heap := by rw [B.state]; rfl
    obtain ⟨t, a1, o, b1, b2, b3⟩ := body p e s m args below meth c s₁ B hml hP s₁ hh0 (Stand.of_body B)
    exact ⟨t, o, a1, b1, b2, b3⟩
/-! ===== END ===== -/
end
section
def RX0 : String := "CardCups$Book"
def TX0 : u_T := fun k => match k with
  | 0 => ("CardCups$Book", "lines", "I", false)
  | 1 => ("CardCups$Book", "visits", "[I", true)
  | 2 => ("CardCups$Book", "kinds", "[I", true)
  | _ => ("CardCups$Book", "values", "[I", true)
def tyX0 : Nat → FieldType := fun k => match k with
  | 0 => .int
  | 1 => .array .int
  | 2 => .array .int
  | _ => .array .int
abbrev wsX00 : List Cond := u_ws RX0 TX0 4
theorem nmX0 : ∀ a, a < 4 → ∀ b, b < 4 → a ≠ b → (TX0 a).2.1 ≠ (TX0 b).2.1 := by decide +kernel
theorem tyX0_ok : ∀ k, k < 4 → parseFieldDescriptor (TX0 k).2.2.1 = some (tyX0 k) := by decide +kernel
abbrev cX0_init : ByteArray := prog_2_method_1_code
def yX0_init : MethodName := ⟨RX0, "<init>", "()V"⟩
abbrev cX0_clear : ByteArray := prog_2_method_2_code
def yX0_clear : MethodName := ⟨RX0, "clear", "()V"⟩
abbrev cX0_copy : ByteArray := prog_2_method_3_code
def yX0_copy : MethodName := ⟨RX0, "copy", "(LCardCups$Book;)V"⟩
abbrev cX0_read : ByteArray := prog_2_method_4_code
def yX0_read : MethodName := ⟨RX0, "read", "(LCardCups$Tape;)V"⟩
abbrev cX0_readLine : ByteArray := prog_2_method_5_code
def yX0_readLine : MethodName := ⟨RX0, "readLine", "(LCardCups$Tape;)V"⟩
abbrev cX0_tellsOf : ByteArray := prog_2_method_6_code
def yX0_tellsOf : MethodName := ⟨RX0, "tellsOf", "(I)Z"⟩
abbrev cX0_isFitting : ByteArray := prog_2_method_7_code
def yX0_isFitting : MethodName := ⟨RX0, "isFitting", "(ILCardCups$Cups;)Z"⟩
abbrev cX0_valueOf : ByteArray := prog_2_method_8_code
def yX0_valueOf : MethodName := ⟨RX0, "valueOf", "(ILCardCups$Cups;)I"⟩
def RX1 : String := "CardCups$Cloud"
def TX1 : u_T := fun k => match k with
  | 0 => ("CardCups$Cloud", "size", "I", false)
  | 1 => ("CardCups$Cloud", "list", "[I", true)
  | _ => ("CardCups$Cloud", "parts", "[J", true)
def tyX1 : Nat → FieldType := fun k => match k with
  | 0 => .int
  | 1 => .array .int
  | _ => .array .long
abbrev wsX10 : List Cond := u_ws RX1 TX1 3
theorem nmX1 : ∀ a, a < 3 → ∀ b, b < 3 → a ≠ b → (TX1 a).2.1 ≠ (TX1 b).2.1 := by decide +kernel
theorem tyX1_ok : ∀ k, k < 3 → parseFieldDescriptor (TX1 k).2.2.1 = some (tyX1 k) := by decide +kernel
abbrev cX1_init : ByteArray := prog_3_method_1_code
def yX1_init : MethodName := ⟨RX1, "<init>", "()V"⟩
abbrev cX1_pairOf : ByteArray := prog_3_method_2_code
def yX1_pairOf : MethodName := ⟨RX1, "pairOf", "(II)I"⟩
abbrev cX1_numberOf : ByteArray := prog_3_method_3_code
def yX1_numberOf : MethodName := ⟨RX1, "numberOf", "(LCardCups$Cups;)I"⟩
abbrev cX1_stateAt : ByteArray := prog_3_method_4_code
def yX1_stateAt : MethodName := ⟨RX1, "stateAt", "(I)I"⟩
abbrev cX1_partsAt : ByteArray := prog_3_method_5_code
def yX1_partsAt : MethodName := ⟨RX1, "partsAt", "(I)J"⟩
abbrev cX1_add : ByteArray := prog_3_method_6_code
def yX1_add : MethodName := ⟨RX1, "add", "(IJ)V"⟩
abbrev cX1_clear : ByteArray := prog_3_method_7_code
def yX1_clear : MethodName := ⟨RX1, "clear", "()V"⟩
def RX2 : String := "CardCups$Cups"
def TX2 : u_T := fun k => match k with
  | 0 => ("CardCups$Cups", "clean", "I", false)
  | 1 => ("CardCups$Cups", "dirty", "I", false)
  | 2 => ("CardCups$Cups", "card", "I", false)
  | 3 => ("CardCups$Cups", "seen", "I", false)
  | 4 => ("CardCups$Cups", "started", "I", false)
  | 5 => ("CardCups$Cups", "visit", "I", false)
  | 6 => ("CardCups$Cups", "held", "I", false)
  | 7 => ("CardCups$Cups", "minute", "I", false)
  | 8 => ("CardCups$Cups", "last", "I", false)
  | 9 => ("CardCups$Cups", "which", "I", false)
  | 10 => ("CardCups$Cups", "worths", "[I", true)
  | _ => ("CardCups$Cups", "warmBy", "[I", true)
def tyX2 : Nat → FieldType := fun k => match k with
  | 0 => .int
  | 1 => .int
  | 2 => .int
  | 3 => .int
  | 4 => .int
  | 5 => .int
  | 6 => .int
  | 7 => .int
  | 8 => .int
  | 9 => .int
  | 10 => .array .int
  | _ => .array .int
abbrev wsX20 : List Cond := u_ws RX2 TX2 12
theorem nmX2 : ∀ a, a < 12 → ∀ b, b < 12 → a ≠ b → (TX2 a).2.1 ≠ (TX2 b).2.1 := by decide +kernel
theorem tyX2_ok : ∀ k, k < 12 → parseFieldDescriptor (TX2 k).2.2.1 = some (tyX2 k) := by decide +kernel
abbrev cX2_init : ByteArray := prog_4_method_1_code
def yX2_init : MethodName := ⟨RX2, "<init>", "()V"⟩
abbrev cX2_setOut : ByteArray := prog_4_method_2_code
def yX2_setOut : MethodName := ⟨RX2, "setOut", "(LCardCups$Office;)V"⟩
abbrev cX2_enter : ByteArray := prog_4_method_3_code
def yX2_enter : MethodName := ⟨RX2, "enter", "(LCardCups$Office;I)V"⟩
abbrev cX2_warmth : ByteArray := prog_4_method_4_code
def yX2_warmth : MethodName := ⟨RX2, "warmth", "()I"⟩
abbrev cX2_hasRoom : ByteArray := prog_4_method_5_code
def yX2_hasRoom : MethodName := ⟨RX2, "hasRoom", "()Z"⟩
abbrev cX2_isTrue : ByteArray := prog_4_method_6_code
def yX2_isTrue : MethodName := ⟨RX2, "isTrue", "()Z"⟩
abbrev cX2_isSo : ByteArray := prog_4_method_7_code
def yX2_isSo : MethodName := ⟨RX2, "isSo", "(I)Z"⟩
abbrev cX2_wordWorths : ByteArray := prog_4_method_8_code
def yX2_wordWorths : MethodName := ⟨RX2, "wordWorths", "()[I"⟩
def RX3 : String := "CardCups$Day"
def TX3 : u_T := fun k => match k with
  | 0 => ("CardCups$Day", "cups", "LCardCups$Cups;", true)
  | 1 => ("CardCups$Day", "drunkFrom", "I", false)
  | 2 => ("CardCups$Day", "washed", "I", false)
  | 3 => ("CardCups$Day", "looks", "I", false)
  | _ => ("CardCups$Day", "seed", "I", false)
def tyX3 : Nat → FieldType := fun k => match k with
  | 0 => .object "CardCups$Cups"
  | 1 => .int
  | 2 => .int
  | 3 => .int
  | _ => .int
abbrev wsX30 : List Cond := u_ws RX3 TX3 5
theorem nmX3 : ∀ a, a < 5 → ∀ b, b < 5 → a ≠ b → (TX3 a).2.1 ≠ (TX3 b).2.1 := by decide +kernel
theorem tyX3_ok : ∀ k, k < 5 → parseFieldDescriptor (TX3 k).2.2.1 = some (tyX3 k) := by decide +kernel
abbrev cX3_init : ByteArray := prog_5_method_1_code
def yX3_init : MethodName := ⟨RX3, "<init>", "()V"⟩
abbrev cX3_pass : ByteArray := prog_5_method_2_code
def yX3_pass : MethodName := ⟨RX3, "pass", "(LCardCups$World;II)V"⟩
abbrev cX3_answer : ByteArray := prog_5_method_3_code
def yX3_answer : MethodName := ⟨RX3, "answer", "(I)I"⟩
abbrev cX3_passVisit : ByteArray := prog_5_method_4_code
def yX3_passVisit : MethodName := ⟨RX3, "passVisit", "(LCardCups$World;I)V"⟩
abbrev cX3_isDone : ByteArray := prog_5_method_5_code
def yX3_isDone : MethodName := ⟨RX3, "isDone", "(LCardCups$Habit;I)Z"⟩
abbrev cX3_draw : ByteArray := prog_5_method_6_code
def yX3_draw : MethodName := ⟨RX3, "draw", "(I)I"⟩
abbrev cX3_doAct : ByteArray := prog_5_method_7_code
def yX3_doAct : MethodName := ⟨RX3, "doAct", "(II)V"⟩
abbrev cX3_drink : ByteArray := prog_5_method_8_code
def yX3_drink : MethodName := ⟨RX3, "drink", "()V"⟩
abbrev cX3_lookInside : ByteArray := prog_5_method_9_code
def yX3_lookInside : MethodName := ⟨RX3, "lookInside", "(I)V"⟩
abbrev cX3_start : ByteArray := prog_5_method_10_code
def yX3_start : MethodName := ⟨RX3, "start", "()V"⟩
def RX4 : String := "CardCups$Diary"
def TX4 : u_T := fun k => match k with
  | 0 => ("CardCups$Diary", "changes", "I", false)
  | 1 => ("CardCups$Diary", "totals", "[I", true)
  | 2 => ("CardCups$Diary", "people", "[[I", true)
  | _ => ("CardCups$Diary", "minutes", "[[I", true)
def tyX4 : Nat → FieldType := fun k => match k with
  | 0 => .int
  | 1 => .array .int
  | 2 => .array (.array .int)
  | _ => .array (.array .int)
abbrev wsX40 : List Cond := u_ws RX4 TX4 4
theorem nmX4 : ∀ a, a < 4 → ∀ b, b < 4 → a ≠ b → (TX4 a).2.1 ≠ (TX4 b).2.1 := by decide +kernel
theorem tyX4_ok : ∀ k, k < 4 → parseFieldDescriptor (TX4 k).2.2.1 = some (tyX4 k) := by decide +kernel
abbrev cX4_init : ByteArray := prog_6_method_1_code
def yX4_init : MethodName := ⟨RX4, "<init>", "()V"⟩
abbrev cX4_clear : ByteArray := prog_6_method_2_code
def yX4_clear : MethodName := ⟨RX4, "clear", "()V"⟩
abbrev cX4_page : ByteArray := prog_6_method_3_code
def yX4_page : MethodName := ⟨RX4, "page", "()I"⟩
abbrev cX4_total : ByteArray := prog_6_method_4_code
def yX4_total : MethodName := ⟨RX4, "total", "()I"⟩
abbrev cX4_personOf : ByteArray := prog_6_method_5_code
def yX4_personOf : MethodName := ⟨RX4, "personOf", "(I)I"⟩
abbrev cX4_minuteOf : ByteArray := prog_6_method_6_code
def yX4_minuteOf : MethodName := ⟨RX4, "minuteOf", "(I)I"⟩
abbrev cX4_whichOfHis : ByteArray := prog_6_method_7_code
def yX4_whichOfHis : MethodName := ⟨RX4, "whichOfHis", "(I)I"⟩
abbrev cX4_minutesSinceHis : ByteArray := prog_6_method_8_code
def yX4_minutesSinceHis : MethodName := ⟨RX4, "minutesSinceHis", "(I)I"⟩
abbrev cX4_visitsOf : ByteArray := prog_6_method_9_code
def yX4_visitsOf : MethodName := ⟨RX4, "visitsOf", "(I)I"⟩
abbrev cX4_firstOf : ByteArray := prog_6_method_10_code
def yX4_firstOf : MethodName := ⟨RX4, "firstOf", "(I)I"⟩
abbrev cX4_insert : ByteArray := prog_6_method_11_code
def yX4_insert : MethodName := ⟨RX4, "insert", "(II)I"⟩
abbrev cX4_remove : ByteArray := prog_6_method_12_code
def yX4_remove : MethodName := ⟨RX4, "remove", "(I)V"⟩
abbrev cX4_turnPage : ByteArray := prog_6_method_13_code
def yX4_turnPage : MethodName := ⟨RX4, "turnPage", "()Z"⟩
abbrev cX4_turnBack : ByteArray := prog_6_method_14_code
def yX4_turnBack : MethodName := ⟨RX4, "turnBack", "()Z"⟩
abbrev cX4_copy : ByteArray := prog_6_method_15_code
def yX4_copy : MethodName := ⟨RX4, "copy", "(LCardCups$Diary;)V"⟩
abbrev cX4_copyPage : ByteArray := prog_6_method_16_code
def yX4_copyPage : MethodName := ⟨RX4, "copyPage", "(ILCardCups$Diary;I)V"⟩
def RX5 : String := "CardCups$Habit"
def TX5 : u_T := fun k => match k with
  | 0 => ("CardCups$Habit", "steps", "I", false)
  | 1 => ("CardCups$Habit", "acts", "[I", true)
  | 2 => ("CardCups$Habit", "odds", "[I", true)
  | 3 => ("CardCups$Habit", "starts", "[I", true)
  | 4 => ("CardCups$Habit", "ends", "[I", true)
  | 5 => ("CardCups$Habit", "orders", "[I", true)
  | 6 => ("CardCups$Habit", "ordered", "I", false)
  | 7 => ("CardCups$Habit", "stack", "[I", true)
  | _ => ("CardCups$Habit", "top", "I", false)
def tyX5 : Nat → FieldType := fun k => match k with
  | 0 => .int
  | 1 => .array .int
  | 2 => .array .int
  | 3 => .array .int
  | 4 => .array .int
  | 5 => .array .int
  | 6 => .int
  | 7 => .array .int
  | _ => .int
abbrev wsX50 : List Cond := u_ws RX5 TX5 9
theorem nmX5 : ∀ a, a < 9 → ∀ b, b < 9 → a ≠ b → (TX5 a).2.1 ≠ (TX5 b).2.1 := by decide +kernel
theorem tyX5_ok : ∀ k, k < 9 → parseFieldDescriptor (TX5 k).2.2.1 = some (tyX5 k) := by decide +kernel
abbrev cX5_init : ByteArray := prog_7_method_1_code
def yX5_init : MethodName := ⟨RX5, "<init>", "()V"⟩
abbrev cX5_clear : ByteArray := prog_7_method_2_code
def yX5_clear : MethodName := ⟨RX5, "clear", "()V"⟩
abbrev cX5_copy : ByteArray := prog_7_method_3_code
def yX5_copy : MethodName := ⟨RX5, "copy", "(LCardCups$Habit;)V"⟩
abbrev cX5_actOf : ByteArray := prog_7_method_4_code
def yX5_actOf : MethodName := ⟨RX5, "actOf", "(I)I"⟩
abbrev cX5_oddsOf : ByteArray := prog_7_method_5_code
def yX5_oddsOf : MethodName := ⟨RX5, "oddsOf", "(I)I"⟩
abbrev cX5_hasCondition : ByteArray := prog_7_method_6_code
def yX5_hasCondition : MethodName := ⟨RX5, "hasCondition", "(I)Z"⟩
abbrev cX5_read : ByteArray := prog_7_method_7_code
def yX5_read : MethodName := ⟨RX5, "read", "(LCardCups$Tape;)V"⟩
abbrev cX5_readStep : ByteArray := prog_7_method_8_code
def yX5_readStep : MethodName := ⟨RX5, "readStep", "(LCardCups$Tape;)V"⟩
abbrev cX5_readEither : ByteArray := prog_7_method_9_code
def yX5_readEither : MethodName := ⟨RX5, "readEither", "(LCardCups$Tape;I)V"⟩
abbrev cX5_readBoth : ByteArray := prog_7_method_10_code
def yX5_readBoth : MethodName := ⟨RX5, "readBoth", "(LCardCups$Tape;I)V"⟩
abbrev cX5_readClaim : ByteArray := prog_7_method_11_code
def yX5_readClaim : MethodName := ⟨RX5, "readClaim", "(LCardCups$Tape;I)V"⟩
abbrev cX5_takeRelation : ByteArray := prog_7_method_12_code
def yX5_takeRelation : MethodName := ⟨RX5, "takeRelation", "(LCardCups$Tape;)I"⟩
abbrev cX5_readSum : ByteArray := prog_7_method_13_code
def yX5_readSum : MethodName := ⟨RX5, "readSum", "(LCardCups$Tape;I)V"⟩
abbrev cX5_readProduct : ByteArray := prog_7_method_14_code
def yX5_readProduct : MethodName := ⟨RX5, "readProduct", "(LCardCups$Tape;I)V"⟩
abbrev cX5_readUnit : ByteArray := prog_7_method_15_code
def yX5_readUnit : MethodName := ⟨RX5, "readUnit", "(LCardCups$Tape;I)V"⟩
abbrev cX5_mayOpen : ByteArray := prog_7_method_16_code
def yX5_mayOpen : MethodName := ⟨RX5, "mayOpen", "(LCardCups$Tape;II)Z"⟩
abbrev cX5_order : ByteArray := prog_7_method_17_code
def yX5_order : MethodName := ⟨RX5, "order", "(II)V"⟩
abbrev cX5_isSo : ByteArray := prog_7_method_18_code
def yX5_isSo : MethodName := ⟨RX5, "isSo", "(I[I)Z"⟩
abbrev cX5_joined : ByteArray := prog_7_method_19_code
def yX5_joined : MethodName := ⟨RX5, "joined", "(III)I"⟩
abbrev cX5_push : ByteArray := prog_7_method_20_code
def yX5_push : MethodName := ⟨RX5, "push", "(I)V"⟩
abbrev cX5_pop : ByteArray := prog_7_method_21_code
def yX5_pop : MethodName := ⟨RX5, "pop", "()I"⟩
def RX6 : String := "CardCups$Ledger"
def TX6 : u_T := fun k => match k with
  | 0 => ("CardCups$Ledger", "odds", "LCardCups$Odds;", true)
  | 1 => ("CardCups$Ledger", "version", "I", false)
  | 2 => ("CardCups$Ledger", "stamps", "[I", true)
  | 3 => ("CardCups$Ledger", "endings", "[J", true)
  | 4 => ("CardCups$Ledger", "costs", "[J", true)
  | 5 => ("CardCups$Ledger", "facts", "[[J", true)
  | 6 => ("CardCups$Ledger", "behind", "[[J", true)
  | 7 => ("CardCups$Ledger", "statesMany", "[I", true)
  | 8 => ("CardCups$Ledger", "drunkFrom", "[J", true)
  | 9 => ("CardCups$Ledger", "washed", "J", false)
  | 10 => ("CardCups$Ledger", "looks", "J", false)
  | 11 => ("CardCups$Ledger", "givenStamp", "I", false)
  | 12 => ("CardCups$Ledger", "givenFacts", "[[J", true)
  | 13 => ("CardCups$Ledger", "givenWays", "[[J", true)
  | 14 => ("CardCups$Ledger", "givenAll", "[J", true)
  | _ => ("CardCups$Ledger", "givenLeft", "J", false)
def tyX6 : Nat → FieldType := fun k => match k with
  | 0 => .object "CardCups$Odds"
  | 1 => .int
  | 2 => .array .int
  | 3 => .array .long
  | 4 => .array .long
  | 5 => .array (.array .long)
  | 6 => .array (.array .long)
  | 7 => .array .int
  | 8 => .array .long
  | 9 => .long
  | 10 => .long
  | 11 => .int
  | 12 => .array (.array .long)
  | 13 => .array (.array .long)
  | 14 => .array .long
  | _ => .long
abbrev wsX60 : List Cond := u_ws RX6 TX6 16
theorem nmX6 : ∀ a, a < 16 → ∀ b, b < 16 → a ≠ b → (TX6 a).2.1 ≠ (TX6 b).2.1 := by decide +kernel
theorem tyX6_ok : ∀ k, k < 16 → parseFieldDescriptor (TX6 k).2.2.1 = some (tyX6 k) := by decide +kernel
abbrev cX6_init : ByteArray := prog_8_method_1_code
def yX6_init : MethodName := ⟨RX6, "<init>", "()V"⟩
abbrev cX6_forget : ByteArray := prog_8_method_2_code
def yX6_forget : MethodName := ⟨RX6, "forget", "()V"⟩
abbrev cX6_endBy : ByteArray := prog_8_method_3_code
def yX6_endBy : MethodName := ⟨RX6, "endBy", "(LCardCups$World;II)J"⟩
abbrev cX6_costBy : ByteArray := prog_8_method_4_code
def yX6_costBy : MethodName := ⟨RX6, "costBy", "(LCardCups$World;II)J"⟩
abbrev cX6_endOrCostBy : ByteArray := prog_8_method_5_code
def yX6_endOrCostBy : MethodName := ⟨RX6, "endOrCostBy", "(LCardCups$World;III)J"⟩
abbrev cX6_statesBehind : ByteArray := prog_8_method_6_code
def yX6_statesBehind : MethodName := ⟨RX6, "statesBehind", "(LCardCups$World;I)I"⟩
abbrev cX6_factBehind : ByteArray := prog_8_method_7_code
def yX6_factBehind : MethodName := ⟨RX6, "factBehind", "(LCardCups$World;II)J"⟩
abbrev cX6_partsBehind : ByteArray := prog_8_method_8_code
def yX6_partsBehind : MethodName := ⟨RX6, "partsBehind", "(LCardCups$World;IIII)J"⟩
abbrev cX6_drunkBy : ByteArray := prog_8_method_9_code
def yX6_drunkBy : MethodName := ⟨RX6, "drunkBy", "(LCardCups$World;I)J"⟩
abbrev cX6_washedAgain : ByteArray := prog_8_method_10_code
def yX6_washedAgain : MethodName := ⟨RX6, "washedAgain", "(LCardCups$World;)J"⟩
abbrev cX6_looksTaken : ByteArray := prog_8_method_11_code
def yX6_looksTaken : MethodName := ⟨RX6, "looksTaken", "(LCardCups$World;)J"⟩
abbrev cX6_factGiven : ByteArray := prog_8_method_12_code
def yX6_factGiven : MethodName := ⟨RX6, "factGiven", "(LCardCups$World;II)J"⟩
abbrev cX6_wayGiven : ByteArray := prog_8_method_13_code
def yX6_wayGiven : MethodName := ⟨RX6, "wayGiven", "(LCardCups$World;II)J"⟩
abbrev cX6_allGiven : ByteArray := prog_8_method_14_code
def yX6_allGiven : MethodName := ⟨RX6, "allGiven", "(LCardCups$World;I)J"⟩
abbrev cX6_fitting : ByteArray := prog_8_method_15_code
def yX6_fitting : MethodName := ⟨RX6, "fitting", "(LCardCups$World;)J"⟩
abbrev cX6_isVisit : ByteArray := prog_8_method_16_code
def yX6_isVisit : MethodName := ⟨RX6, "isVisit", "(I)Z"⟩
abbrev cX6_reckon : ByteArray := prog_8_method_17_code
def yX6_reckon : MethodName := ⟨RX6, "reckon", "(LCardCups$World;II)I"⟩
abbrev cX6_keepCounts : ByteArray := prog_8_method_18_code
def yX6_keepCounts : MethodName := ⟨RX6, "keepCounts", "()V"⟩
abbrev cX6_reckonGiven : ByteArray := prog_8_method_19_code
def yX6_reckonGiven : MethodName := ⟨RX6, "reckonGiven", "(LCardCups$World;)V"⟩
def RX7 : String := "CardCups$Odds"
def TX7 : u_T := fun k => match k with
  | 0 => ("CardCups$Odds", "cleanOf", "[I", true)
  | 1 => ("CardCups$Odds", "dirtyOf", "[I", true)
  | 2 => ("CardCups$Odds", "hand", "LCardCups$Cups;", true)
  | 3 => ("CardCups$Odds", "memo", "[I", true)
  | 4 => ("CardCups$Odds", "drunkBy", "[J", true)
  | 5 => ("CardCups$Odds", "doing", "[LCardCups$Habit;", true)
  | 6 => ("CardCups$Odds", "washedAgain", "J", false)
  | 7 => ("CardCups$Odds", "looks", "J", false)
  | 8 => ("CardCups$Odds", "now", "LCardCups$Cloud;", false)
  | 9 => ("CardCups$Odds", "next", "LCardCups$Cloud;", false)
  | 10 => ("CardCups$Odds", "fallOdds", "I", false)
  | 11 => ("CardCups$Odds", "seeOdds", "I", false)
  | 12 => ("CardCups$Odds", "starter", "I", false)
  | _ => ("CardCups$Odds", "leftOut", "I", false)
def tyX7 : Nat → FieldType := fun k => match k with
  | 0 => .array .int
  | 1 => .array .int
  | 2 => .object "CardCups$Cups"
  | 3 => .array .int
  | 4 => .array .long
  | 5 => .array (.object "CardCups$Habit")
  | 6 => .long
  | 7 => .long
  | 8 => .object "CardCups$Cloud"
  | 9 => .object "CardCups$Cloud"
  | 10 => .int
  | 11 => .int
  | 12 => .int
  | _ => .int
abbrev wsX70 : List Cond := u_ws RX7 TX7 14
theorem nmX7 : ∀ a, a < 14 → ∀ b, b < 14 → a ≠ b → (TX7 a).2.1 ≠ (TX7 b).2.1 := by decide +kernel
theorem tyX7_ok : ∀ k, k < 14 → parseFieldDescriptor (TX7 k).2.2.1 = some (tyX7 k) := by decide +kernel
abbrev cX7_init : ByteArray := prog_9_method_1_code
def yX7_init : MethodName := ⟨RX7, "<init>", "()V"⟩
abbrev cX7_plan : ByteArray := prog_9_method_2_code
def yX7_plan : MethodName := ⟨RX7, "plan", "(LCardCups$World;II)V"⟩
abbrev cX7_setOut : ByteArray := prog_9_method_3_code
def yX7_setOut : MethodName := ⟨RX7, "setOut", "(LCardCups$Office;)V"⟩
abbrev cX7_isLeftOut : ByteArray := prog_9_method_4_code
def yX7_isLeftOut : MethodName := ⟨RX7, "isLeftOut", "(LCardCups$Office;I)Z"⟩
abbrev cX7_enter : ByteArray := prog_9_method_5_code
def yX7_enter : MethodName := ⟨RX7, "enter", "(LCardCups$Office;I)V"⟩
abbrev cX7_keepFitting : ByteArray := prog_9_method_6_code
def yX7_keepFitting : MethodName := ⟨RX7, "keepFitting", "(LCardCups$Book;I)V"⟩
abbrev cX7_act : ByteArray := prog_9_method_7_code
def yX7_act : MethodName := ⟨RX7, "act", "(I)V"⟩
abbrev cX7_doStep : ByteArray := prog_9_method_8_code
def yX7_doStep : MethodName := ⟨RX7, "doStep", "(LCardCups$Habit;II)V"⟩
abbrev cX7_clearMemo : ByteArray := prog_9_method_9_code
def yX7_clearMemo : MethodName := ⟨RX7, "clearMemo", "()V"⟩
abbrev cX7_isSo : ByteArray := prog_9_method_10_code
def yX7_isSo : MethodName := ⟨RX7, "isSo", "(LCardCups$Habit;I)Z"⟩
abbrev cX7_doAct : ByteArray := prog_9_method_11_code
def yX7_doAct : MethodName := ⟨RX7, "doAct", "(IIJ)V"⟩
abbrev cX7_drink : ByteArray := prog_9_method_12_code
def yX7_drink : MethodName := ⟨RX7, "drink", "(IJ)V"⟩
abbrev cX7_lookInside : ByteArray := prog_9_method_13_code
def yX7_lookInside : MethodName := ⟨RX7, "lookInside", "(J)V"⟩
abbrev cX7_start : ByteArray := prog_9_method_14_code
def yX7_start : MethodName := ⟨RX7, "start", "(J)V"⟩
abbrev cX7_forgetSeen : ByteArray := prog_9_method_15_code
def yX7_forgetSeen : MethodName := ⟨RX7, "forgetSeen", "()V"⟩
abbrev cX7_startFull : ByteArray := prog_9_method_16_code
def yX7_startFull : MethodName := ⟨RX7, "startFull", "()V"⟩
abbrev cX7_goOn : ByteArray := prog_9_method_17_code
def yX7_goOn : MethodName := ⟨RX7, "goOn", "()V"⟩
abbrev cX7_load : ByteArray := prog_9_method_18_code
def yX7_load : MethodName := ⟨RX7, "load", "(I)J"⟩
abbrev cX7_drunkFrom : ByteArray := prog_9_method_19_code
def yX7_drunkFrom : MethodName := ⟨RX7, "drunkFrom", "(I)J"⟩
abbrev cX7_costAt : ByteArray := prog_9_method_20_code
def yX7_costAt : MethodName := ⟨RX7, "costAt", "(LCardCups$Office;)J"⟩
abbrev cX7_allParts : ByteArray := prog_9_method_21_code
def yX7_allParts : MethodName := ⟨RX7, "allParts", "()J"⟩
abbrev cX7_trueParts : ByteArray := prog_9_method_22_code
def yX7_trueParts : MethodName := ⟨RX7, "trueParts", "()J"⟩
abbrev cX7_sumFacts : ByteArray := prog_9_method_23_code
def yX7_sumFacts : MethodName := ⟨RX7, "sumFacts", "([J)V"⟩
abbrev cX7_sumStates : ByteArray := prog_9_method_24_code
def yX7_sumStates : MethodName := ⟨RX7, "sumStates", "([J)I"⟩
abbrev cX7_weighWays : ByteArray := prog_9_method_25_code
def yX7_weighWays : MethodName := ⟨RX7, "weighWays", "(LCardCups$Office;[J)V"⟩
abbrev cX7_takeCost : ByteArray := prog_9_method_26_code
def yX7_takeCost : MethodName := ⟨RX7, "takeCost", "(LCardCups$Office;J)J"⟩
abbrev cX7_startCost : ByteArray := prog_9_method_27_code
def yX7_startCost : MethodName := ⟨RX7, "startCost", "(LCardCups$Office;J)J"⟩
def RX8 : String := "CardCups$Office"
def TX8 : u_T := fun k => match k with
  | 0 => ("CardCups$Office", "diary", "LCardCups$Diary;", true)
  | 1 => ("CardCups$Office", "tolds", "[I", true)
  | _ => ("CardCups$Office", "prices", "[I", true)
def tyX8 : Nat → FieldType := fun k => match k with
  | 0 => .object "CardCups$Diary"
  | 1 => .array .int
  | _ => .array .int
abbrev wsX80 : List Cond := u_ws RX8 TX8 3
theorem nmX8 : ∀ a, a < 3 → ∀ b, b < 3 → a ≠ b → (TX8 a).2.1 ≠ (TX8 b).2.1 := by decide +kernel
theorem tyX8_ok : ∀ k, k < 3 → parseFieldDescriptor (TX8 k).2.2.1 = some (tyX8 k) := by decide +kernel
abbrev cX8_init : ByteArray := prog_10_method_1_code
def yX8_init : MethodName := ⟨RX8, "<init>", "()V"⟩
abbrev cX8_setOut : ByteArray := prog_10_method_2_code
def yX8_setOut : MethodName := ⟨RX8, "setOut", "()V"⟩
abbrev cX8_toldOf : ByteArray := prog_10_method_3_code
def yX8_toldOf : MethodName := ⟨RX8, "toldOf", "(I)I"⟩
abbrev cX8_priceOf : ByteArray := prog_10_method_4_code
def yX8_priceOf : MethodName := ⟨RX8, "priceOf", "(I)I"⟩
abbrev cX8_copy : ByteArray := prog_10_method_5_code
def yX8_copy : MethodName := ⟨RX8, "copy", "(LCardCups$Office;)V"⟩
abbrev cX8_read : ByteArray := prog_10_method_6_code
def yX8_read : MethodName := ⟨RX8, "read", "(LCardCups$Tape;)V"⟩
abbrev cX8_readClause : ByteArray := prog_10_method_7_code
def yX8_readClause : MethodName := ⟨RX8, "readClause", "(LCardCups$Tape;I)V"⟩
abbrev cX8_isTooMany : ByteArray := prog_10_method_8_code
def yX8_isTooMany : MethodName := ⟨RX8, "isTooMany", "(II)Z"⟩
abbrev cX8_readNumbers : ByteArray := prog_10_method_9_code
def yX8_readNumbers : MethodName := ⟨RX8, "readNumbers", "(ILCardCups$Tape;)V"⟩
abbrev cX8_readCups : ByteArray := prog_10_method_10_code
def yX8_readCups : MethodName := ⟨RX8, "readCups", "(LCardCups$Tape;)V"⟩
abbrev cX8_readPrices : ByteArray := prog_10_method_11_code
def yX8_readPrices : MethodName := ⟨RX8, "readPrices", "(LCardCups$Tape;)V"⟩
abbrev cX8_readVisit : ByteArray := prog_10_method_12_code
def yX8_readVisit : MethodName := ⟨RX8, "readVisit", "(LCardCups$Tape;)V"⟩
def RX9 : String := "CardCups$Tape"
def TX9 : u_T := fun k => match k with
  | 0 => ("CardCups$Tape", "bytes", "[B", true)
  | 1 => ("CardCups$Tape", "length", "I", false)
  | 2 => ("CardCups$Tape", "faultKind", "I", false)
  | 3 => ("CardCups$Tape", "faultAt", "I", false)
  | 4 => ("CardCups$Tape", "end", "I", false)
  | _ => ("CardCups$Tape", "at", "I", false)
def tyX9 : Nat → FieldType := fun k => match k with
  | 0 => .array .byte
  | 1 => .int
  | 2 => .int
  | 3 => .int
  | 4 => .int
  | _ => .int
abbrev wsX90 : List Cond := u_ws RX9 TX9 6
theorem nmX9 : ∀ a, a < 6 → ∀ b, b < 6 → a ≠ b → (TX9 a).2.1 ≠ (TX9 b).2.1 := by decide +kernel
theorem tyX9_ok : ∀ k, k < 6 → parseFieldDescriptor (TX9 k).2.2.1 = some (tyX9 k) := by decide +kernel
abbrev cX9_init : ByteArray := prog_11_method_1_code
def yX9_init : MethodName := ⟨RX9, "<init>", "()V"⟩
abbrev cX9_hasRoom : ByteArray := prog_11_method_2_code
def yX9_hasRoom : MethodName := ⟨RX9, "hasRoom", "(I)Z"⟩
abbrev cX9_put : ByteArray := prog_11_method_3_code
def yX9_put : MethodName := ⟨RX9, "put", "(I)V"⟩
abbrev cX9_open : ByteArray := prog_11_method_4_code
def yX9_open : MethodName := ⟨RX9, "open", "(I)V"⟩
abbrev cX9_isFine : ByteArray := prog_11_method_5_code
def yX9_isFine : MethodName := ⟨RX9, "isFine", "()Z"⟩
abbrev cX9_refuse : ByteArray := prog_11_method_6_code
def yX9_refuse : MethodName := ⟨RX9, "refuse", "(II)V"⟩
abbrev cX9_nextPlace : ByteArray := prog_11_method_7_code
def yX9_nextPlace : MethodName := ⟨RX9, "nextPlace", "()I"⟩
abbrev cX9_goesOn : ByteArray := prog_11_method_8_code
def yX9_goesOn : MethodName := ⟨RX9, "goesOn", "()Z"⟩
abbrev cX9_takeSign : ByteArray := prog_11_method_9_code
def yX9_takeSign : MethodName := ⟨RX9, "takeSign", "(C)Z"⟩
abbrev cX9_needSign : ByteArray := prog_11_method_10_code
def yX9_needSign : MethodName := ⟨RX9, "needSign", "(C)V"⟩
abbrev cX9_takeWordOf : ByteArray := prog_11_method_11_code
def yX9_takeWordOf : MethodName := ⟨RX9, "takeWordOf", "(Ljava/lang/String;)I"⟩
abbrev cX9_matches : ByteArray := prog_11_method_12_code
def yX9_matches : MethodName := ⟨RX9, "matches", "(Ljava/lang/String;II)Z"⟩
abbrev cX9_takeNumber : ByteArray := prog_11_method_13_code
def yX9_takeNumber : MethodName := ⟨RX9, "takeNumber", "(II)I"⟩
abbrev cX9_byteAt : ByteArray := prog_11_method_14_code
def yX9_byteAt : MethodName := ⟨RX9, "byteAt", "(I)I"⟩
abbrev cX9_isLetter : ByteArray := prog_11_method_15_code
def yX9_isLetter : MethodName := ⟨RX9, "isLetter", "(I)Z"⟩
abbrev cX9_isDigit : ByteArray := prog_11_method_16_code
def yX9_isDigit : MethodName := ⟨RX9, "isDigit", "(I)Z"⟩
def RX10 : String := "CardCups$World"
def TX10 : u_T := fun k => match k with
  | 0 => ("CardCups$World", "office", "LCardCups$Office;", true)
  | 1 => ("CardCups$World", "habits", "[LCardCups$Habit;", true)
  | 2 => ("CardCups$World", "rule", "LCardCups$Habit;", true)
  | _ => ("CardCups$World", "book", "LCardCups$Book;", true)
def tyX10 : Nat → FieldType := fun k => match k with
  | 0 => .object "CardCups$Office"
  | 1 => .array (.object "CardCups$Habit")
  | 2 => .object "CardCups$Habit"
  | _ => .object "CardCups$Book"
abbrev wsX100 : List Cond := u_ws RX10 TX10 4
theorem nmX10 : ∀ a, a < 4 → ∀ b, b < 4 → a ≠ b → (TX10 a).2.1 ≠ (TX10 b).2.1 := by decide +kernel
theorem tyX10_ok : ∀ k, k < 4 → parseFieldDescriptor (TX10 k).2.2.1 = some (tyX10 k) := by decide +kernel
abbrev cX10_init : ByteArray := prog_12_method_1_code
def yX10_init : MethodName := ⟨RX10, "<init>", "()V"⟩
abbrev cX10_begin : ByteArray := prog_12_method_2_code
def yX10_begin : MethodName := ⟨RX10, "begin", "(LCardCups$Office;)V"⟩
def RX11 : String := "CardCups"
def TX11 : u_T := fun k => match k with
  | 0 => ("CardCups", "tape", "LCardCups$Tape;", true)
  | 1 => ("CardCups", "world", "LCardCups$World;", true)
  | 2 => ("CardCups", "officeRead", "LCardCups$Office;", true)
  | 3 => ("CardCups", "habitRead", "LCardCups$Habit;", true)
  | 4 => ("CardCups", "bookRead", "LCardCups$Book;", true)
  | 5 => ("CardCups", "images", "[LCardCups$Diary;", true)
  | 6 => ("CardCups", "ledger", "LCardCups$Ledger;", true)
  | 7 => ("CardCups", "someDay", "LCardCups$Day;", true)
  | 8 => ("CardCups", "imagesKept", "I", false)
  | 9 => ("CardCups", "faultPlace", "I", false)
  | 10 => ("CardCups", "notFound", "I", false)
  | _ => ("CardCups", "notAllowed", "I", false)
def tyX11 : Nat → FieldType := fun k => match k with
  | 0 => .object "CardCups$Tape"
  | 1 => .object "CardCups$World"
  | 2 => .object "CardCups$Office"
  | 3 => .object "CardCups$Habit"
  | 4 => .object "CardCups$Book"
  | 5 => .array (.object "CardCups$Diary")
  | 6 => .object "CardCups$Ledger"
  | 7 => .object "CardCups$Day"
  | 8 => .int
  | 9 => .int
  | 10 => .int
  | _ => .int
abbrev wsX110 : List Cond := u_ws RX11 TX11 12
theorem nmX11 : ∀ a, a < 12 → ∀ b, b < 12 → a ≠ b → (TX11 a).2.1 ≠ (TX11 b).2.1 := by decide +kernel
theorem tyX11_ok : ∀ k, k < 12 → parseFieldDescriptor (TX11 k).2.2.1 = some (tyX11 k) := by decide +kernel
abbrev cX11_init : ByteArray := prog_1_method_1_code
def yX11_init : MethodName := ⟨RX11, "<init>", "()V"⟩
abbrev cX11_feed : ByteArray := prog_1_method_2_code
def yX11_feed : MethodName := ⟨RX11, "feed", "(IIIII)I"⟩
abbrev cX11_office : ByteArray := prog_1_method_3_code
def yX11_office : MethodName := ⟨RX11, "office", "(I)I"⟩
abbrev cX11_habit : ByteArray := prog_1_method_4_code
def yX11_habit : MethodName := ⟨RX11, "habit", "(II)I"⟩
abbrev cX11_rule : ByteArray := prog_1_method_5_code
def yX11_rule : MethodName := ⟨RX11, "rule", "(I)I"⟩
abbrev cX11_book : ByteArray := prog_1_method_6_code
def yX11_book : MethodName := ⟨RX11, "book", "(I)I"⟩
abbrev cX11_fault : ByteArray := prog_1_method_7_code
def yX11_fault : MethodName := ⟨RX11, "fault", "()I"⟩
abbrev cX11_readHabit : ByteArray := prog_1_method_8_code
def yX11_readHabit : MethodName := ⟨RX11, "readHabit", "(LCardCups$Habit;I)I"⟩
abbrev cX11_closeTape : ByteArray := prog_1_method_9_code
def yX11_closeTape : MethodName := ⟨RX11, "closeTape", "()Z"⟩
abbrev cX11_faultAnswer : ByteArray := prog_1_method_10_code
def yX11_faultAnswer : MethodName := ⟨RX11, "faultAnswer", "()I"⟩
abbrev cX11_told : ByteArray := prog_1_method_11_code
def yX11_told : MethodName := ⟨RX11, "told", "(I)I"⟩
abbrev cX11_visit : ByteArray := prog_1_method_12_code
def yX11_visit : MethodName := ⟨RX11, "visit", "(II)I"⟩
abbrev cX11_person : ByteArray := prog_1_method_13_code
def yX11_person : MethodName := ⟨RX11, "person", "(II)I"⟩
abbrev cX11_price : ByteArray := prog_1_method_14_code
def yX11_price : MethodName := ⟨RX11, "price", "(I)I"⟩
abbrev cX11_states : ByteArray := prog_1_method_15_code
def yX11_states : MethodName := ⟨RX11, "states", "(I)I"⟩
abbrev cX11_likely : ByteArray := prog_1_method_16_code
def yX11_likely : MethodName := ⟨RX11, "likely", "(II)J"⟩
abbrev cX11_state : ByteArray := prog_1_method_17_code
def yX11_state : MethodName := ⟨RX11, "state", "(IIII)J"⟩
abbrev cX11_likeliest : ByteArray := prog_1_method_18_code
def yX11_likeliest : MethodName := ⟨RX11, "likeliest", "(I)I"⟩
abbrev cX11_mean : ByteArray := prog_1_method_19_code
def yX11_mean : MethodName := ⟨RX11, "mean", "(III)J"⟩
abbrev cX11_often : ByteArray := prog_1_method_20_code
def yX11_often : MethodName := ⟨RX11, "often", "(I)J"⟩
abbrev cX11_since : ByteArray := prog_1_method_21_code
def yX11_since : MethodName := ⟨RX11, "since", "()I"⟩
abbrev cX11_drunk : ByteArray := prog_1_method_22_code
def yX11_drunk : MethodName := ⟨RX11, "drunk", "(II)J"⟩
abbrev cX11_done : ByteArray := prog_1_method_23_code
def yX11_done : MethodName := ⟨RX11, "done", "(II)J"⟩
abbrev cX11_cost : ByteArray := prog_1_method_24_code
def yX11_cost : MethodName := ⟨RX11, "cost", "(I)J"⟩
abbrev cX11_fits : ByteArray := prog_1_method_25_code
def yX11_fits : MethodName := ⟨RX11, "fits", "(I)J"⟩
abbrev cX11_given : ByteArray := prog_1_method_26_code
def yX11_given : MethodName := ⟨RX11, "given", "(III)J"⟩
abbrev cX11_best : ByteArray := prog_1_method_27_code
def yX11_best : MethodName := ⟨RX11, "best", "(I)I"⟩
abbrev cX11_worth : ByteArray := prog_1_method_28_code
def yX11_worth : MethodName := ⟨RX11, "worth", "(III)J"⟩
abbrev cX11_gain : ByteArray := prog_1_method_29_code
def yX11_gain : MethodName := ⟨RX11, "gain", "(II)J"⟩
abbrev cX11_without : ByteArray := prog_1_method_30_code
def yX11_without : MethodName := ⟨RX11, "without", "(II)J"⟩
abbrev cX11_keeper : ByteArray := prog_1_method_31_code
def yX11_keeper : MethodName := ⟨RX11, "keeper", "()I"⟩
abbrev cX11_spoiler : ByteArray := prog_1_method_32_code
def yX11_spoiler : MethodName := ⟨RX11, "spoiler", "()I"⟩
abbrev cX11_falling : ByteArray := prog_1_method_33_code
def yX11_falling : MethodName := ⟨RX11, "falling", "(I)J"⟩
abbrev cX11_seeing : ByteArray := prog_1_method_34_code
def yX11_seeing : MethodName := ⟨RX11, "seeing", "(II)J"⟩
abbrev cX11_filled : ByteArray := prog_1_method_35_code
def yX11_filled : MethodName := ⟨RX11, "filled", "(II)J"⟩
abbrev cX11_fill : ByteArray := prog_1_method_36_code
def yX11_fill : MethodName := ⟨RX11, "fill", "()I"⟩
abbrev cX11_ruled : ByteArray := prog_1_method_37_code
def yX11_ruled : MethodName := ⟨RX11, "ruled", "(I)J"⟩
abbrev cX11_swapped : ByteArray := prog_1_method_38_code
def yX11_swapped : MethodName := ⟨RX11, "swapped", "(III)J"⟩
abbrev cX11_swap : ByteArray := prog_1_method_39_code
def yX11_swap : MethodName := ⟨RX11, "swap", "()I"⟩
abbrev cX11_pairOf : ByteArray := prog_1_method_40_code
def yX11_pairOf : MethodName := ⟨RX11, "pairOf", "(II)I"⟩
abbrev cX11_day : ByteArray := prog_1_method_41_code
def yX11_day : MethodName := ⟨RX11, "day", "(III)I"⟩
abbrev cX11_span : ByteArray := prog_1_method_42_code
def yX11_span : MethodName := ⟨RX11, "span", "(III)I"⟩
abbrev cX11_come : ByteArray := prog_1_method_43_code
def yX11_come : MethodName := ⟨RX11, "come", "(II)I"⟩
abbrev cX11_skip : ByteArray := prog_1_method_44_code
def yX11_skip : MethodName := ⟨RX11, "skip", "(I)I"⟩
abbrev cX11_shift : ByteArray := prog_1_method_45_code
def yX11_shift : MethodName := ⟨RX11, "shift", "(II)I"⟩
abbrev cX11_teach : ByteArray := prog_1_method_46_code
def yX11_teach : MethodName := ⟨RX11, "teach", "(II)I"⟩
abbrev cX11_undo : ByteArray := prog_1_method_47_code
def yX11_undo : MethodName := ⟨RX11, "undo", "()I"⟩
abbrev cX11_image : ByteArray := prog_1_method_48_code
def yX11_image : MethodName := ⟨RX11, "image", "()I"⟩
abbrev cX11_restore : ByteArray := prog_1_method_49_code
def yX11_restore : MethodName := ⟨RX11, "restore", "()I"⟩
abbrev cX11_status : ByteArray := prog_1_method_50_code
def yX11_status : MethodName := ⟨RX11, "status", "(I)I"⟩
abbrev cX11_count : ByteArray := prog_1_method_51_code
def yX11_count : MethodName := ⟨RX11, "count", "(I)I"⟩
abbrev cX11_need : ByteArray := prog_1_method_52_code
def yX11_need : MethodName := ⟨RX11, "need", "(Z)V"⟩
abbrev cX11_needFound : ByteArray := prog_1_method_53_code
def yX11_needFound : MethodName := ⟨RX11, "needFound", "(Z)V"⟩
abbrev cX11_needPerson : ByteArray := prog_1_method_54_code
def yX11_needPerson : MethodName := ⟨RX11, "needPerson", "(I)V"⟩
abbrev cX11_needVisit : ByteArray := prog_1_method_55_code
def yX11_needVisit : MethodName := ⟨RX11, "needVisit", "(I)V"⟩
abbrev cX11_needBytes : ByteArray := prog_1_method_56_code
def yX11_needBytes : MethodName := ⟨RX11, "needBytes", "(II)V"⟩
abbrev cX11_isWithin : ByteArray := prog_1_method_57_code
def yX11_isWithin : MethodName := ⟨RX11, "isWithin", "(III)Z"⟩
abbrev cX11_isPart : ByteArray := prog_1_method_58_code
def yX11_isPart : MethodName := ⟨RX11, "isPart", "(I)Z"⟩
abbrev cX11_diary : ByteArray := prog_1_method_59_code
def yX11_diary : MethodName := ⟨RX11, "diary", "()LCardCups$Diary;"⟩
abbrev cX11_people : ByteArray := prog_1_method_60_code
def yX11_people : MethodName := ⟨RX11, "people", "()I"⟩
abbrev cX11_habitOf : ByteArray := prog_1_method_61_code
def yX11_habitOf : MethodName := ⟨RX11, "habitOf", "(I)LCardCups$Habit;"⟩
abbrev cX11_inLeastTerms : ByteArray := prog_1_method_62_code
def yX11_inLeastTerms : MethodName := ⟨RX11, "inLeastTerms", "(JJI)J"⟩
abbrev cX11_commonDivisor : ByteArray := prog_1_method_63_code
def yX11_commonDivisor : MethodName := ⟨RX11, "commonDivisor", "(JJ)J"⟩
def RX12 : String := "CardCupsModel"
def TX12 : u_T := fun k => match k with
  | 0 => ("CardCupsModel", "thrown", "I", false)
  | 1 => ("CardCupsModel", "refused", "[I", true)
  | 2 => ("CardCupsModel", "taped", "I", false)
  | 3 => ("CardCupsModel", "size", "I", false)
  | 4 => ("CardCupsModel", "at", "I", false)
  | 5 => ("CardCupsModel", "bad", "I", false)
  | 6 => ("CardCupsModel", "badKind", "I", false)
  | 7 => ("CardCupsModel", "opens", "I", false)
  | 8 => ("CardCupsModel", "faultAt", "I", false)
  | 9 => ("CardCupsModel", "tape", "[I", true)
  | 10 => ("CardCupsModel", "newOffice", "[I", true)
  | 11 => ("CardCupsModel", "office", "[I", true)
  | 12 => ("CardCupsModel", "newWho", "[I", true)
  | 13 => ("CardCupsModel", "newMinute", "[I", true)
  | 14 => ("CardCupsModel", "who", "[I", true)
  | 15 => ("CardCupsModel", "minute", "[I", true)
  | 16 => ("CardCupsModel", "newPeople", "I", false)
  | 17 => ("CardCupsModel", "newVisits", "I", false)
  | 18 => ("CardCupsModel", "people", "I", false)
  | 19 => ("CardCupsModel", "visits", "I", false)
  | 20 => ("CardCupsModel", "newCode", "[I", true)
  | 21 => ("CardCupsModel", "newOf", "[I", true)
  | 22 => ("CardCupsModel", "newStep", "[I", true)
  | 23 => ("CardCupsModel", "stack", "[I", true)
  | 24 => ("CardCupsModel", "code", "[I", true)
  | 25 => ("CardCupsModel", "ofCode", "[I", true)
  | 26 => ("CardCupsModel", "step", "[I", true)
  | 27 => ("CardCupsModel", "steps", "[I", true)
  | 28 => ("CardCupsModel", "newCodes", "I", false)
  | 29 => ("CardCupsModel", "newSteps", "I", false)
  | 30 => ("CardCupsModel", "newLine", "[I", true)
  | 31 => ("CardCupsModel", "line", "[I", true)
  | 32 => ("CardCupsModel", "lines", "I", false)
  | 33 => ("CardCupsModel", "live", "[I", true)
  | 34 => ("CardCupsModel", "liveNext", "[I", true)
  | 35 => ("CardCupsModel", "lives", "I", false)
  | 36 => ("CardCupsModel", "nexts", "I", false)
  | 37 => ("CardCupsModel", "parts", "[J", true)
  | 38 => ("CardCupsModel", "next", "[J", true)
  | 39 => ("CardCupsModel", "drunkBy", "[J", true)
  | 40 => ("CardCupsModel", "trueAt", "[J", true)
  | 41 => ("CardCupsModel", "washed", "J", false)
  | 42 => ("CardCupsModel", "looks", "J", false)
  | 43 => ("CardCupsModel", "optFall", "I", false)
  | 44 => ("CardCupsModel", "optSee", "I", false)
  | 45 => ("CardCupsModel", "optFill", "I", false)
  | 46 => ("CardCupsModel", "optWithout", "I", false)
  | 47 => ("CardCupsModel", "optOne", "I", false)
  | 48 => ("CardCupsModel", "optOther", "I", false)
  | 49 => ("CardCupsModel", "optRuled", "Z", false)
  | 50 => ("CardCupsModel", "optBook", "Z", false)
  | 51 => ("CardCupsModel", "c", "I", false)
  | 52 => ("CardCupsModel", "d", "I", false)
  | 53 => ("CardCupsModel", "card", "I", false)
  | 54 => ("CardCupsModel", "start", "I", false)
  | 55 => ("CardCupsModel", "seen", "I", false)
  | 56 => ("CardCupsModel", "facts", "[I", true)
  | 57 => ("CardCupsModel", "seedNow", "I", false)
  | 58 => ("CardCupsModel", "dayDrunk", "I", false)
  | 59 => ("CardCupsModel", "dayWashed", "I", false)
  | 60 => ("CardCupsModel", "dayLooks", "I", false)
  | 61 => ("CardCupsModel", "past", "[I", true)
  | 62 => ("CardCupsModel", "changes", "I", false)
  | 63 => ("CardCupsModel", "image", "[I", true)
  | _ => ("CardCupsModel", "images", "I", false)
def tyX12 : Nat → FieldType := fun k => match k with
  | 0 => .int
  | 1 => .array .int
  | 2 => .int
  | 3 => .int
  | 4 => .int
  | 5 => .int
  | 6 => .int
  | 7 => .int
  | 8 => .int
  | 9 => .array .int
  | 10 => .array .int
  | 11 => .array .int
  | 12 => .array .int
  | 13 => .array .int
  | 14 => .array .int
  | 15 => .array .int
  | 16 => .int
  | 17 => .int
  | 18 => .int
  | 19 => .int
  | 20 => .array .int
  | 21 => .array .int
  | 22 => .array .int
  | 23 => .array .int
  | 24 => .array .int
  | 25 => .array .int
  | 26 => .array .int
  | 27 => .array .int
  | 28 => .int
  | 29 => .int
  | 30 => .array .int
  | 31 => .array .int
  | 32 => .int
  | 33 => .array .int
  | 34 => .array .int
  | 35 => .int
  | 36 => .int
  | 37 => .array .long
  | 38 => .array .long
  | 39 => .array .long
  | 40 => .array .long
  | 41 => .long
  | 42 => .long
  | 43 => .int
  | 44 => .int
  | 45 => .int
  | 46 => .int
  | 47 => .int
  | 48 => .int
  | 49 => .boolean
  | 50 => .boolean
  | 51 => .int
  | 52 => .int
  | 53 => .int
  | 54 => .int
  | 55 => .int
  | 56 => .array .int
  | 57 => .int
  | 58 => .int
  | 59 => .int
  | 60 => .int
  | 61 => .array .int
  | 62 => .int
  | 63 => .array .int
  | _ => .int
abbrev wsX120 : List Cond := u_ws RX12 TX12 65
theorem nmX12 : ∀ a, a < 65 → ∀ b, b < 65 → a ≠ b → (TX12 a).2.1 ≠ (TX12 b).2.1 := by decide +kernel
theorem tyX12_ok : ∀ k, k < 65 → parseFieldDescriptor (TX12 k).2.2.1 = some (tyX12 k) := by decide +kernel
abbrev cX12_thrown : ByteArray := prog_14_method_1_code
def yX12_thrown : MethodName := ⟨RX12, "thrown", "()I"⟩
abbrev cX12_may : ByteArray := prog_14_method_2_code
def yX12_may : MethodName := ⟨RX12, "may", "(ZII)Z"⟩
abbrev cX12_within : ByteArray := prog_14_method_3_code
def yX12_within : MethodName := ⟨RX12, "within", "(III)Z"⟩
abbrev cX12_init : ByteArray := prog_14_method_4_code
def yX12_init : MethodName := ⟨RX12, "<init>", "()V"⟩
abbrev cX12_feed : ByteArray := prog_14_method_5_code
def yX12_feed : MethodName := ⟨RX12, "feed", "(IIIII)I"⟩
abbrev cX12_fine : ByteArray := prog_14_method_6_code
def yX12_fine : MethodName := ⟨RX12, "fine", "()Z"⟩
abbrev cX12_wrong : ByteArray := prog_14_method_7_code
def yX12_wrong : MethodName := ⟨RX12, "wrong", "(II)V"⟩
abbrev cX12_here : ByteArray := prog_14_method_8_code
def yX12_here : MethodName := ⟨RX12, "here", "()I"⟩
abbrev cX12_isSmall : ByteArray := prog_14_method_9_code
def yX12_isSmall : MethodName := ⟨RX12, "isSmall", "(I)Z"⟩
abbrev cX12_isDigit : ByteArray := prog_14_method_10_code
def yX12_isDigit : MethodName := ⟨RX12, "isDigit", "(I)Z"⟩
abbrev cX12_word : ByteArray := prog_14_method_11_code
def yX12_word : MethodName := ⟨RX12, "word", "()I"⟩
abbrev cX12_of : ByteArray := prog_14_method_12_code
def yX12_of : MethodName := ⟨RX12, "of", "(Ljava/lang/String;)I"⟩
abbrev cX12_pass : ByteArray := prog_14_method_13_code
def yX12_pass : MethodName := ⟨RX12, "pass", "()V"⟩
abbrev cX12_readNumber : ByteArray := prog_14_method_14_code
def yX12_readNumber : MethodName := ⟨RX12, "readNumber", "(II)I"⟩
abbrev cX12_sign : ByteArray := prog_14_method_15_code
def yX12_sign : MethodName := ⟨RX12, "sign", "(I)V"⟩
abbrev cX12_isMore : ByteArray := prog_14_method_16_code
def yX12_isMore : MethodName := ⟨RX12, "isMore", "()Z"⟩
abbrev cX12_begins : ByteArray := prog_14_method_17_code
def yX12_begins : MethodName := ⟨RX12, "begins", "(I)V"⟩
abbrev cX12_result : ByteArray := prog_14_method_18_code
def yX12_result : MethodName := ⟨RX12, "result", "(I)I"⟩
abbrev cX12_fault : ByteArray := prog_14_method_19_code
def yX12_fault : MethodName := ⟨RX12, "fault", "()I"⟩
abbrev cX12_clears : ByteArray := prog_14_method_20_code
def yX12_clears : MethodName := ⟨RX12, "clears", "()V"⟩
abbrev cX12_copies : ByteArray := prog_14_method_21_code
def yX12_copies : MethodName := ⟨RX12, "copies", "([I[II)V"⟩
abbrev cX12_sets : ByteArray := prog_14_method_22_code
def yX12_sets : MethodName := ⟨RX12, "sets", "()V"⟩
abbrev cX12_puts : ByteArray := prog_14_method_23_code
def yX12_puts : MethodName := ⟨RX12, "puts", "([I[IIII)I"⟩
abbrev cX12_readClause : ByteArray := prog_14_method_24_code
def yX12_readClause : MethodName := ⟨RX12, "readClause", "(I)V"⟩
abbrev cX12_standsHere : ByteArray := prog_14_method_25_code
def yX12_standsHere : MethodName := ⟨RX12, "standsHere", "(Ljava/lang/String;)Z"⟩
abbrev cX12_clauseHere : ByteArray := prog_14_method_26_code
def yX12_clauseHere : MethodName := ⟨RX12, "clauseHere", "()I"⟩
abbrev cX12_office : ByteArray := prog_14_method_27_code
def yX12_office : MethodName := ⟨RX12, "office", "(I)I"⟩
abbrev cX12_emit : ByteArray := prog_14_method_28_code
def yX12_emit : MethodName := ⟨RX12, "emit", "(II)V"⟩
abbrev cX12_opensOne : ByteArray := prog_14_method_29_code
def yX12_opensOne : MethodName := ⟨RX12, "opensOne", "(I)V"⟩
abbrev cX12_readAny : ByteArray := prog_14_method_30_code
def yX12_readAny : MethodName := ⟨RX12, "readAny", "()V"⟩
abbrev cX12_readAll : ByteArray := prog_14_method_31_code
def yX12_readAll : MethodName := ⟨RX12, "readAll", "()V"⟩
abbrev cX12_readOne : ByteArray := prog_14_method_32_code
def yX12_readOne : MethodName := ⟨RX12, "readOne", "()V"⟩
abbrev cX12_readSum : ByteArray := prog_14_method_33_code
def yX12_readSum : MethodName := ⟨RX12, "readSum", "()V"⟩
abbrev cX12_readProduct : ByteArray := prog_14_method_34_code
def yX12_readProduct : MethodName := ⟨RX12, "readProduct", "()V"⟩
abbrev cX12_factOf : ByteArray := prog_14_method_35_code
def yX12_factOf : MethodName := ⟨RX12, "factOf", "(I)I"⟩
abbrev cX12_readUnit : ByteArray := prog_14_method_36_code
def yX12_readUnit : MethodName := ⟨RX12, "readUnit", "()V"⟩
abbrev cX12_actOf : ByteArray := prog_14_method_37_code
def yX12_actOf : MethodName := ⟨RX12, "actOf", "(I)I"⟩
abbrev cX12_readStep : ByteArray := prog_14_method_38_code
def yX12_readStep : MethodName := ⟨RX12, "readStep", "()V"⟩
abbrev cX12_readHabit : ByteArray := prog_14_method_39_code
def yX12_readHabit : MethodName := ⟨RX12, "readHabit", "(II)I"⟩
abbrev cX12_isPerson : ByteArray := prog_14_method_40_code
def yX12_isPerson : MethodName := ⟨RX12, "isPerson", "(II)Z"⟩
abbrev cX12_isVisit : ByteArray := prog_14_method_41_code
def yX12_isVisit : MethodName := ⟨RX12, "isVisit", "(II)Z"⟩
abbrev cX12_isTold : ByteArray := prog_14_method_42_code
def yX12_isTold : MethodName := ⟨RX12, "isTold", "(I)Z"⟩
abbrev cX12_habit : ByteArray := prog_14_method_43_code
def yX12_habit : MethodName := ⟨RX12, "habit", "(II)I"⟩
abbrev cX12_rule : ByteArray := prog_14_method_44_code
def yX12_rule : MethodName := ⟨RX12, "rule", "(I)I"⟩
abbrev cX12_book : ByteArray := prog_14_method_45_code
def yX12_book : MethodName := ⟨RX12, "book", "(I)I"⟩
abbrev cX12_told : ByteArray := prog_14_method_46_code
def yX12_told : MethodName := ⟨RX12, "told", "(I)I"⟩
abbrev cX12_whichOf : ByteArray := prog_14_method_47_code
def yX12_whichOf : MethodName := ⟨RX12, "whichOf", "(I)I"⟩
abbrev cX12_sinceOf : ByteArray := prog_14_method_48_code
def yX12_sinceOf : MethodName := ⟨RX12, "sinceOf", "(I)I"⟩
abbrev cX12_visit : ByteArray := prog_14_method_49_code
def yX12_visit : MethodName := ⟨RX12, "visit", "(II)I"⟩
abbrev cX12_person : ByteArray := prog_14_method_50_code
def yX12_person : MethodName := ⟨RX12, "person", "(II)I"⟩
abbrev cX12_price : ByteArray := prog_14_method_51_code
def yX12_price : MethodName := ⟨RX12, "price", "(I)I"⟩
abbrev cX12_plain : ByteArray := prog_14_method_52_code
def yX12_plain : MethodName := ⟨RX12, "plain", "()V"⟩
abbrev cX12_index : ByteArray := prog_14_method_53_code
def yX12_index : MethodName := ⟨RX12, "index", "(IIIII)I"⟩
abbrev cX12_begin : ByteArray := prog_14_method_54_code
def yX12_begin : MethodName := ⟨RX12, "begin", "()V"⟩
abbrev cX12_gives : ByteArray := prog_14_method_55_code
def yX12_gives : MethodName := ⟨RX12, "gives", "(IJ)V"⟩
abbrev cX12_takesNext : ByteArray := prog_14_method_56_code
def yX12_takesNext : MethodName := ⟨RX12, "takesNext", "()V"⟩
abbrev cX12_stateOf : ByteArray := prog_14_method_57_code
def yX12_stateOf : MethodName := ⟨RX12, "stateOf", "(I)V"⟩
abbrev cX12_falls : ByteArray := prog_14_method_58_code
def yX12_falls : MethodName := ⟨RX12, "falls", "()V"⟩
abbrev cX12_isWarm : ByteArray := prog_14_method_59_code
def yX12_isWarm : MethodName := ⟨RX12, "isWarm", "(I)Z"⟩
abbrev cX12_isLine : ByteArray := prog_14_method_60_code
def yX12_isLine : MethodName := ⟨RX12, "isLine", "(II)Z"⟩
abbrev cX12_keepsBook : ByteArray := prog_14_method_61_code
def yX12_keepsBook : MethodName := ⟨RX12, "keepsBook", "(I)V"⟩
abbrev cX12_isSo : ByteArray := prog_14_method_62_code
def yX12_isSo : MethodName := ⟨RX12, "isSo", "(II)Z"⟩
abbrev cX12_both : ByteArray := prog_14_method_63_code
def yX12_both : MethodName := ⟨RX12, "both", "(III)I"⟩
abbrev cX12_findFacts : ByteArray := prog_14_method_64_code
def yX12_findFacts : MethodName := ⟨RX12, "findFacts", "(I)V"⟩
abbrev cX12_habitOf : ByteArray := prog_14_method_65_code
def yX12_habitOf : MethodName := ⟨RX12, "habitOf", "(I)I"⟩
abbrev cX12_does : ByteArray := prog_14_method_66_code
def yX12_does : MethodName := ⟨RX12, "does", "(IJI)V"⟩
abbrev cX12_takes : ByteArray := prog_14_method_67_code
def yX12_takes : MethodName := ⟨RX12, "takes", "(JI)V"⟩
abbrev cX12_starts : ByteArray := prog_14_method_68_code
def yX12_starts : MethodName := ⟨RX12, "starts", "(JI)V"⟩
abbrev cX12_goesStep : ByteArray := prog_14_method_69_code
def yX12_goesStep : MethodName := ⟨RX12, "goesStep", "(III)V"⟩
abbrev cX12_ends : ByteArray := prog_14_method_70_code
def yX12_ends : MethodName := ⟨RX12, "ends", "(I)V"⟩
abbrev cX12_comes : ByteArray := prog_14_method_71_code
def yX12_comes : MethodName := ⟨RX12, "comes", "(I)V"⟩
abbrev cX12_goes : ByteArray := prog_14_method_72_code
def yX12_goes : MethodName := ⟨RX12, "goes", "(I)V"⟩
abbrev cX12_goesAll : ByteArray := prog_14_method_73_code
def yX12_goesAll : MethodName := ⟨RX12, "goesAll", "()V"⟩
abbrev cX12_isOf : ByteArray := prog_14_method_74_code
def yX12_isOf : MethodName := ⟨RX12, "isOf", "(II)Z"⟩
abbrev cX12_likelyOf : ByteArray := prog_14_method_75_code
def yX12_likelyOf : MethodName := ⟨RX12, "likelyOf", "(II)J"⟩
abbrev cX12_all : ByteArray := prog_14_method_76_code
def yX12_all : MethodName := ⟨RX12, "all", "()J"⟩
abbrev cX12_least : ByteArray := prog_14_method_77_code
def yX12_least : MethodName := ⟨RX12, "least", "(JJI)J"⟩
abbrev cX12_states : ByteArray := prog_14_method_78_code
def yX12_states : MethodName := ⟨RX12, "states", "(I)I"⟩
abbrev cX12_likely : ByteArray := prog_14_method_79_code
def yX12_likely : MethodName := ⟨RX12, "likely", "(II)J"⟩
abbrev cX12_partsOf : ByteArray := prog_14_method_80_code
def yX12_partsOf : MethodName := ⟨RX12, "partsOf", "(III)J"⟩
abbrev cX12_state : ByteArray := prog_14_method_81_code
def yX12_state : MethodName := ⟨RX12, "state", "(IIII)J"⟩
abbrev cX12_likeliest : ByteArray := prog_14_method_82_code
def yX12_likeliest : MethodName := ⟨RX12, "likeliest", "(I)I"⟩
abbrev cX12_mean : ByteArray := prog_14_method_83_code
def yX12_mean : MethodName := ⟨RX12, "mean", "(III)J"⟩
abbrev cX12_isPart : ByteArray := prog_14_method_84_code
def yX12_isPart : MethodName := ⟨RX12, "isPart", "(I)Z"⟩
abbrev cX12_often : ByteArray := prog_14_method_85_code
def yX12_often : MethodName := ⟨RX12, "often", "(I)J"⟩
abbrev cX12_since : ByteArray := prog_14_method_86_code
def yX12_since : MethodName := ⟨RX12, "since", "()I"⟩
abbrev cX12_drunk : ByteArray := prog_14_method_87_code
def yX12_drunk : MethodName := ⟨RX12, "drunk", "(II)J"⟩
abbrev cX12_done : ByteArray := prog_14_method_88_code
def yX12_done : MethodName := ⟨RX12, "done", "(II)J"⟩
abbrev cX12_costNow : ByteArray := prog_14_method_89_code
def yX12_costNow : MethodName := ⟨RX12, "costNow", "()J"⟩
abbrev cX12_cost : ByteArray := prog_14_method_90_code
def yX12_cost : MethodName := ⟨RX12, "cost", "(I)J"⟩
abbrev cX12_fits : ByteArray := prog_14_method_91_code
def yX12_fits : MethodName := ⟨RX12, "fits", "(I)J"⟩
abbrev cX12_goesGiven : ByteArray := prog_14_method_92_code
def yX12_goesGiven : MethodName := ⟨RX12, "goesGiven", "(I)V"⟩
abbrev cX12_share : ByteArray := prog_14_method_93_code
def yX12_share : MethodName := ⟨RX12, "share", "(JI)J"⟩
abbrev cX12_given : ByteArray := prog_14_method_94_code
def yX12_given : MethodName := ⟨RX12, "given", "(III)J"⟩
abbrev cX12_takeCost : ByteArray := prog_14_method_95_code
def yX12_takeCost : MethodName := ⟨RX12, "takeCost", "(J)J"⟩
abbrev cX12_worthOf : ByteArray := prog_14_method_96_code
def yX12_worthOf : MethodName := ⟨RX12, "worthOf", "(I)J"⟩
abbrev cX12_best : ByteArray := prog_14_method_97_code
def yX12_best : MethodName := ⟨RX12, "best", "(I)I"⟩
abbrev cX12_worth : ByteArray := prog_14_method_98_code
def yX12_worth : MethodName := ⟨RX12, "worth", "(III)J"⟩
abbrev cX12_gain : ByteArray := prog_14_method_99_code
def yX12_gain : MethodName := ⟨RX12, "gain", "(II)J"⟩
abbrev cX12_trueNow : ByteArray := prog_14_method_100_code
def yX12_trueNow : MethodName := ⟨RX12, "trueNow", "()J"⟩
abbrev cX12_without : ByteArray := prog_14_method_101_code
def yX12_without : MethodName := ⟨RX12, "without", "(II)J"⟩
abbrev cX12_leastWithout : ByteArray := prog_14_method_102_code
def yX12_leastWithout : MethodName := ⟨RX12, "leastWithout", "(Z)I"⟩
abbrev cX12_keeper : ByteArray := prog_14_method_103_code
def yX12_keeper : MethodName := ⟨RX12, "keeper", "()I"⟩
abbrev cX12_spoiler : ByteArray := prog_14_method_104_code
def yX12_spoiler : MethodName := ⟨RX12, "spoiler", "()I"⟩
abbrev cX12_falling : ByteArray := prog_14_method_105_code
def yX12_falling : MethodName := ⟨RX12, "falling", "(I)J"⟩
abbrev cX12_seeing : ByteArray := prog_14_method_106_code
def yX12_seeing : MethodName := ⟨RX12, "seeing", "(II)J"⟩
abbrev cX12_filled : ByteArray := prog_14_method_107_code
def yX12_filled : MethodName := ⟨RX12, "filled", "(II)J"⟩
abbrev cX12_fill : ByteArray := prog_14_method_108_code
def yX12_fill : MethodName := ⟨RX12, "fill", "()I"⟩
abbrev cX12_ruled : ByteArray := prog_14_method_109_code
def yX12_ruled : MethodName := ⟨RX12, "ruled", "(I)J"⟩
abbrev cX12_swapped : ByteArray := prog_14_method_110_code
def yX12_swapped : MethodName := ⟨RX12, "swapped", "(III)J"⟩
abbrev cX12_swap : ByteArray := prog_14_method_111_code
def yX12_swap : MethodName := ⟨RX12, "swap", "()I"⟩
abbrev cX12_draws : ByteArray := prog_14_method_112_code
def yX12_draws : MethodName := ⟨RX12, "draws", "(I)I"⟩
abbrev cX12_dayDoes : ByteArray := prog_14_method_113_code
def yX12_dayDoes : MethodName := ⟨RX12, "dayDoes", "(II)V"⟩
abbrev cX12_dayGoes : ByteArray := prog_14_method_114_code
def yX12_dayGoes : MethodName := ⟨RX12, "dayGoes", "(II)V"⟩
abbrev cX12_day : ByteArray := prog_14_method_115_code
def yX12_day : MethodName := ⟨RX12, "day", "(III)I"⟩
abbrev cX12_span : ByteArray := prog_14_method_116_code
def yX12_span : MethodName := ⟨RX12, "span", "(III)I"⟩
abbrev cX12_keepsVisits : ByteArray := prog_14_method_117_code
def yX12_keepsVisits : MethodName := ⟨RX12, "keepsVisits", "()V"⟩
abbrev cX12_leaves : ByteArray := prog_14_method_118_code
def yX12_leaves : MethodName := ⟨RX12, "leaves", "(I)V"⟩
abbrev cX12_come : ByteArray := prog_14_method_119_code
def yX12_come : MethodName := ⟨RX12, "come", "(II)I"⟩
abbrev cX12_skip : ByteArray := prog_14_method_120_code
def yX12_skip : MethodName := ⟨RX12, "skip", "(I)I"⟩
abbrev cX12_shift : ByteArray := prog_14_method_121_code
def yX12_shift : MethodName := ⟨RX12, "shift", "(II)I"⟩
abbrev cX12_teach : ByteArray := prog_14_method_122_code
def yX12_teach : MethodName := ⟨RX12, "teach", "(II)I"⟩
abbrev cX12_undo : ByteArray := prog_14_method_123_code
def yX12_undo : MethodName := ⟨RX12, "undo", "()I"⟩
abbrev cX12_keepsRow : ByteArray := prog_14_method_124_code
def yX12_keepsRow : MethodName := ⟨RX12, "keepsRow", "(I[IIZ)I"⟩
abbrev cX12_keepsAll : ByteArray := prog_14_method_125_code
def yX12_keepsAll : MethodName := ⟨RX12, "keepsAll", "(IZ)V"⟩
abbrev cX12_image : ByteArray := prog_14_method_126_code
def yX12_image : MethodName := ⟨RX12, "image", "()I"⟩
abbrev cX12_restore : ByteArray := prog_14_method_127_code
def yX12_restore : MethodName := ⟨RX12, "restore", "()I"⟩
abbrev cX12_status : ByteArray := prog_14_method_128_code
def yX12_status : MethodName := ⟨RX12, "status", "(I)I"⟩
abbrev cX12_count : ByteArray := prog_14_method_129_code
def yX12_count : MethodName := ⟨RX12, "count", "(I)I"⟩
def RL : String := "CardCupsLaw"
abbrev cL_office : ByteArray := method_3_code
def yL_office : MethodName := ⟨RL, "office", "(LCardCups;I[J)I"⟩
abbrev cL_habit : ByteArray := method_4_code
def yL_habit : MethodName := ⟨RL, "habit", "(LCardCups;II[J)I"⟩
abbrev cL_rule : ByteArray := method_5_code
def yL_rule : MethodName := ⟨RL, "rule", "(LCardCups;I[J)I"⟩
abbrev cL_book : ByteArray := method_6_code
def yL_book : MethodName := ⟨RL, "book", "(LCardCups;I[J)I"⟩
abbrev cL_told : ByteArray := method_7_code
def yL_told : MethodName := ⟨RL, "told", "(LCardCups;I[J)I"⟩
abbrev cL_visit : ByteArray := method_8_code
def yL_visit : MethodName := ⟨RL, "visit", "(LCardCups;II[J)I"⟩
abbrev cL_person : ByteArray := method_9_code
def yL_person : MethodName := ⟨RL, "person", "(LCardCups;II[J)I"⟩
abbrev cL_price : ByteArray := method_10_code
def yL_price : MethodName := ⟨RL, "price", "(LCardCups;I[J)I"⟩
abbrev cL_states : ByteArray := method_11_code
def yL_states : MethodName := ⟨RL, "states", "(LCardCups;I[J)I"⟩
abbrev cL_likely : ByteArray := method_12_code
def yL_likely : MethodName := ⟨RL, "likely", "(LCardCups;II[J)I"⟩
abbrev cL_state : ByteArray := method_13_code
def yL_state : MethodName := ⟨RL, "state", "(LCardCups;IIII[J)I"⟩
abbrev cL_likeliest : ByteArray := method_14_code
def yL_likeliest : MethodName := ⟨RL, "likeliest", "(LCardCups;I[J)I"⟩
abbrev cL_mean : ByteArray := method_15_code
def yL_mean : MethodName := ⟨RL, "mean", "(LCardCups;III[J)I"⟩
abbrev cL_often : ByteArray := method_16_code
def yL_often : MethodName := ⟨RL, "often", "(LCardCups;I[J)I"⟩
abbrev cL_drunk : ByteArray := method_17_code
def yL_drunk : MethodName := ⟨RL, "drunk", "(LCardCups;II[J)I"⟩
abbrev cL_done : ByteArray := method_18_code
def yL_done : MethodName := ⟨RL, "done", "(LCardCups;II[J)I"⟩
abbrev cL_cost : ByteArray := method_19_code
def yL_cost : MethodName := ⟨RL, "cost", "(LCardCups;I[J)I"⟩
abbrev cL_fits : ByteArray := method_20_code
def yL_fits : MethodName := ⟨RL, "fits", "(LCardCups;I[J)I"⟩
abbrev cL_given : ByteArray := method_21_code
def yL_given : MethodName := ⟨RL, "given", "(LCardCups;III[J)I"⟩
abbrev cL_best : ByteArray := method_22_code
def yL_best : MethodName := ⟨RL, "best", "(LCardCups;I[J)I"⟩
abbrev cL_worth : ByteArray := method_23_code
def yL_worth : MethodName := ⟨RL, "worth", "(LCardCups;III[J)I"⟩
abbrev cL_gain : ByteArray := method_24_code
def yL_gain : MethodName := ⟨RL, "gain", "(LCardCups;II[J)I"⟩
abbrev cL_without : ByteArray := method_25_code
def yL_without : MethodName := ⟨RL, "without", "(LCardCups;II[J)I"⟩
abbrev cL_falling : ByteArray := method_26_code
def yL_falling : MethodName := ⟨RL, "falling", "(LCardCups;I[J)I"⟩
abbrev cL_seeing : ByteArray := method_27_code
def yL_seeing : MethodName := ⟨RL, "seeing", "(LCardCups;II[J)I"⟩
abbrev cL_filled : ByteArray := method_28_code
def yL_filled : MethodName := ⟨RL, "filled", "(LCardCups;II[J)I"⟩
abbrev cL_ruled : ByteArray := method_29_code
def yL_ruled : MethodName := ⟨RL, "ruled", "(LCardCups;I[J)I"⟩
abbrev cL_swapped : ByteArray := method_30_code
def yL_swapped : MethodName := ⟨RL, "swapped", "(LCardCups;III[J)I"⟩
abbrev cL_day : ByteArray := method_31_code
def yL_day : MethodName := ⟨RL, "day", "(LCardCups;III[J)I"⟩
abbrev cL_span : ByteArray := method_32_code
def yL_span : MethodName := ⟨RL, "span", "(LCardCups;III[J)I"⟩
abbrev cL_come : ByteArray := method_33_code
def yL_come : MethodName := ⟨RL, "come", "(LCardCups;II[J)I"⟩
abbrev cL_skip : ByteArray := method_34_code
def yL_skip : MethodName := ⟨RL, "skip", "(LCardCups;I[J)I"⟩
abbrev cL_shift : ByteArray := method_35_code
def yL_shift : MethodName := ⟨RL, "shift", "(LCardCups;II[J)I"⟩
abbrev cL_teach : ByteArray := method_36_code
def yL_teach : MethodName := ⟨RL, "teach", "(LCardCups;II[J)I"⟩
abbrev cL_law : ByteArray := code
def yL_law : MethodName := ⟨RL, "law", "([I)Z"⟩
abbrev vwCl : List vw_C := [(RX0, TX0, 4), (RX1, TX1, 3), (RX2, TX2, 12), (RX3, TX3, 5), (RX4, TX4, 4), (RX5, TX5, 9), (RX6, TX6, 16), (RX7, TX7, 14), (RX8, TX8, 3), (RX9, TX9, 6), (RX10, TX10, 4), (RX11, TX11, 12), (RX12, TX12, 65)]
end
section
/-! THE MACHINE OF THIS CLAIM, ABSTRACTLY: a function that runs the methods' instructions over a list of cells whose places are the references.
 Values are the library's own, a reference being a place; '.retAddr i' is the String constant number i ('.retAddr (i + 1000)' its bytes), '.float 0' the law's script, '.float 1' some reference or null that nothing looks into (a caught exception). -/
/-- a cell: an object of class number c, or an array (its elements' type, length, elements) -/
abbrev jm_C : Type := (Nat × List Value) ⊕ (FieldType × vp_A)
/-- the cells; how many cells and slots were made -/
abbrev jm_H : Type := List jm_C × Nat × Nat
abbrev jm_L : Type := List (Option Value)
/-- pc, instruction, next pc, three numbers, place of its word, a value, which locals live on -/
abbrev jm_I : Type := Nat × Instr × Nat × Nat × Nat × Nat × Nat × Value × List Bool
/-- a method: name, bytes, maxLocals, what it returns, handlers (from, to, handler, exception), items it takes, instructions -/
abbrev jm_M : Type := MethodName × ByteArray × Nat × Option FieldType × List (Nat × Nat × Nat × Nat) × Nat × List jm_I
/-- returned, or threw exception number k -/
abbrev jm_O : Type := Option Value ⊕ Nat
abbrev jm_S : Type := Nat × jm_L × List Value × jm_H
def jm_in (i : Int32) (n : Nat) : Bool := !(decide (i < 0)) && decide (i.toNatClampNeg < n)
/-- a field -/
def jm_get (h : jm_H) (a ci j : Nat) : Option Value := match h.1[a]? with
  | some (.inl (c, fs)) => if c = ci then fs[j]? else none
  | _ => none
def jm_getI (h : jm_H) (a ci j : Nat) : Option Int32 := match jm_get h a ci j with
  | some (.int x) => some x
  | _ => none
def jm_getL (h : jm_H) (a ci j : Nat) : Option Int64 := match jm_get h a ci j with
  | some (.long x) => some x
  | _ => none
def jm_getR (h : jm_H) (a ci j : Nat) : Option Nat := match jm_get h a ci j with
  | some (.ref x) => some x
  | _ => none
def jm_put (h : jm_H) (a ci j : Nat) (v : Value) : Option jm_H := match h.1[a]? with
  | some (.inl (c, fs)) => if c = ci ∧ j < fs.length then some (h.1.set a (.inl (c, fs.set j v)), h.2) else none
  | _ => none
/-- array elements -/
def jm_aldI (h : jm_H) (t : FieldType) (a : Nat) (i : Int32) : Option Int32 := match h.1[a]? with
  | some (.inr (t', (n, .inl f))) => if t' = t ∧ jm_in i n = true then some (f i.toNatClampNeg) else none
  | _ => none
def jm_aldL (h : jm_H) (a : Nat) (i : Int32) : Option Int64 := match h.1[a]? with
  | some (.inr (t', (n, .inr (.inl f)))) => if t' = .long ∧ jm_in i n = true then some (f i.toNatClampNeg) else none
  | _ => none
def jm_aldR (h : jm_H) (a : Nat) (i : Int32) : Option (Option Nat) := match h.1[a]? with
  | some (.inr (t', (n, .inr (.inr (.inr (.inr f)))))) => if t'.isReference = true ∧ jm_in i n = true then some (f i.toNatClampNeg) else none
  | _ => none
def jm_astI (h : jm_H) (t : FieldType) (a : Nat) (i x : Int32) : Option jm_H := match h.1[a]? with
  | some (.inr (t', (n, .inl f))) => if t' = t ∧ jm_in i n = true then some (h.1.set a (.inr (t', (n, .inl (upd f i.toNatClampNeg x)))), h.2) else none
  | _ => none
def jm_astL (h : jm_H) (a : Nat) (i : Int32) (x : Int64) : Option jm_H := match h.1[a]? with
  | some (.inr (t', (n, .inr (.inl f)))) => if t' = .long ∧ jm_in i n = true then some (h.1.set a (.inr (t', (n, .inr (.inl (vp_updL f i.toNatClampNeg x))))), h.2) else none
  | _ => none
/-- an object of class number ci into an array of such -/
def jm_astR (h : jm_H) (cn : String) (ci a : Nat) (i : Int32) (v : Nat) : Option jm_H := match h.1[a]?, h.1[v]? with
  | some (.inr (t', (n, .inr (.inr (.inr (.inr f)))))), some (.inl (c, _)) => if t' = .object cn ∧ c = ci ∧ jm_in i n = true then some (h.1.set a (.inr (t', (n, .inr (.inr (.inr (.inr (va_up f i.toNatClampNeg (some v)))))))), h.2) else none
  | _, _ => none
def jm_len (h : jm_H) (a : Nat) : Option Int32 := match h.1[a]? with
  | some (.inr (_, (n, _))) => some (Int32.ofNat n)
  | _ => none
def jm_add (h : jm_H) (c : jm_C) (n : Nat) : jm_H := (h.1 ++ [c], h.2.1 + 1, h.2.2 + n)
/-- stack shapes -/
def jm_i1 (f : Int32 → Value) : List Value → Option (List Value)
  | .int x :: r => some (f x :: r)
  | _ => none
def jm_i2 (f : Int32 → Int32 → Value) : List Value → Option (List Value)
  | .int y :: .int x :: r => some (f x y :: r)
  | _ => none
def jm_l2 (f : Int64 → Int64 → Value) : List Value → Option (List Value)
  | .long y :: .long x :: r => some (f x y :: r)
  | _ => none
def jm_c1 : Value → Bool
  | .long _ => false
  | _ => true
def jm_w : Value → Nat
  | .long _ => 2
  | _ => 1
/-- what waits on the stack below a call is short -/
def jm_lt (r : List Value) : Bool := decide ((r.map jm_w).sum ≤ 8)
def jm_isA : Value → Bool
  | .ref _ => true
  | .null => true
  | .retAddr _ => true
  | .float _ => true
  | _ => false
/-- locals -/
def jm_ldI (L : jm_L) (i : Nat) : Option Value := match L[i]? with
  | some (some (.int x)) => some (.int x)
  | _ => none
def jm_ldL (L : jm_L) (i : Nat) : Option Value := match L[i]? with
  | some (some (.long x)) => some (.long x)
  | _ => none
def jm_ldA (L : jm_L) (i : Nat) : Option Value := match L[i]? with
  | some (some v) => if jm_isA v = true then some v else none
  | _ => none
/-- a pair's first half that a store hits goes -/
def jm_kill (L : jm_L) : Nat → jm_L
  | 0 => L
  | k + 1 => match L[k]? with
    | some (some (.long _)) => L.set k none
    | _ => L
def jm_st1 (L : jm_L) (i : Nat) (v : Value) : Option jm_L := if i < L.length then some ((jm_kill L i).set i (some v)) else none
def jm_st2 (L : jm_L) (i : Nat) (v : Value) : Option jm_L := if i + 1 < L.length then some (((jm_kill L i).set i (some v)).set (i + 1) none) else none
def jm_stI (L : jm_L) (i : Nat) (np : Nat) (h : jm_H) : List Value → Option jm_S
  | .int x :: r => (jm_st1 L i (.int x)).map fun L' => (np, L', r, h)
  | _ => none
def jm_stL (L : jm_L) (i : Nat) (np : Nat) (h : jm_H) : List Value → Option jm_S
  | .long x :: r => (jm_st2 L i (.long x)).map fun L' => (np, L', r, h)
  | _ => none
def jm_stA (L : jm_L) (i : Nat) (np : Nat) (h : jm_H) : List Value → Option jm_S
  | v :: r => if jm_isA v = true then (jm_st1 L i v).map fun L' => (np, L', r, h) else none
  | _ => none
def jm_if1 (b : Int32 → Prop) [∀ x, Decidable (b x)] (L : jm_L) (t np : Nat) (h : jm_H) : List Value → Option jm_S
  | .int x :: r => if b x then some (t, L, r, h) else some (np, L, r, h)
  | _ => none
def jm_if2 (b : Int32 → Int32 → Prop) [∀ x y, Decidable (b x y)] (L : jm_L) (t np : Nat) (h : jm_H) : List Value → Option jm_S
  | .int y :: .int x :: r => if b x y then some (t, L, r, h) else some (np, L, r, h)
  | _ => none
def jm_to (pc : Nat) (off : Int) (L : jm_L) (r : List Value) (h : jm_H) : Option jm_S := if 0 ≤ (pc : Int) + off then some (((pc : Int) + off).toNat, L, r, h) else none
def jm_mask : List Bool → jm_L → jm_L
  | b :: bs, v :: vs => (if b = true then v else none) :: jm_mask bs vs
  | _, _ => []
/-- what the claim's classes are called, and what a new object of each holds; the String constants' bytes; the script -/
abbrev jm_G : Type := List (String × List Value) × List (List Int32) × Nat × (Nat → Int32)
def jm_fld (G : jm_G) (ci : Nat) : List Value := match G.1[ci]? with
  | some q => q.2
  | none => []
def jm_nam (G : jm_G) (ci : Nat) : String := match G.1[ci]? with
  | some q => q.1
  | none => ""
/-- one instruction that is neither a call of the claim's own methods nor a return -/
def jm_stp (G : jm_G) (e : jm_I) (L : jm_L) (st : List Value) (h : jm_H) : Option jm_S := match e with
  | (pc, i, np, x, y, z, _, v, _) => match i with
    | .iconst _ => some (np, L, v :: st, h)
    | .lconst _ => some (np, L, v :: st, h)
    | .bipush _ => some (np, L, v :: st, h)
    | .sipush _ => some (np, L, v :: st, h)
    | .ldc _ => some (np, L, v :: st, h)
    | .ldc_w _ => some (np, L, v :: st, h)
    | .ldc2_w _ => some (np, L, v :: st, h)
    | .iload k => (jm_ldI L k).map fun v => (np, L, v :: st, h)
    | .iload_n k => (jm_ldI L k.val).map fun v => (np, L, v :: st, h)
    | .lload k => (jm_ldL L k).map fun v => (np, L, v :: st, h)
    | .lload_n k => (jm_ldL L k.val).map fun v => (np, L, v :: st, h)
    | .aload k => (jm_ldA L k).map fun v => (np, L, v :: st, h)
    | .aload_n k => (jm_ldA L k.val).map fun v => (np, L, v :: st, h)
    | .istore k => jm_stI L k np h st
    | .istore_n k => jm_stI L k.val np h st
    | .lstore k => jm_stL L k np h st
    | .lstore_n k => jm_stL L k.val np h st
    | .astore k => jm_stA L k np h st
    | .astore_n k => jm_stA L k.val np h st
    | .iinc k n => match jm_ldI L k with
      | some (.int x) => (jm_st1 L k (.int (x + Int32.ofInt n))).map fun L' => (np, L', st, h)
      | _ => none
    | .iadd => (jm_i2 (fun x y => .int (x + y)) st).map fun r => (np, L, r, h)
    | .isub => (jm_i2 (fun x y => .int (x - y)) st).map fun r => (np, L, r, h)
    | .imul => (jm_i2 (fun x y => .int (x * y)) st).map fun r => (np, L, r, h)
    | .iand => (jm_i2 (fun x y => .int (x &&& y)) st).map fun r => (np, L, r, h)
    | .ior => (jm_i2 (fun x y => .int (x ||| y)) st).map fun r => (np, L, r, h)
    | .ishl => (jm_i2 (fun x y => .int (x <<< (y &&& 31))) st).map fun r => (np, L, r, h)
    | .ishr => (jm_i2 (fun x y => .int (x >>> (y &&& 31))) st).map fun r => (np, L, r, h)
    | .iushr => (jm_i2 (fun x y => .int ((x.toUInt32 >>> (y.toUInt32 &&& Int32.toUInt32 31)).toInt32)) st).map fun r => (np, L, r, h)
    | .idiv => match st with
      | .int y :: .int x :: r => if y = 0 then none else some (np, L, .int (x / y) :: r, h)
      | _ => none
    | .irem => match st with
      | .int y :: .int x :: r => if y = 0 then none else some (np, L, .int (x - x / y * y) :: r, h)
      | _ => none
    | .ladd => (jm_l2 (fun x y => .long (x + y)) st).map fun r => (np, L, r, h)
    | .lsub => (jm_l2 (fun x y => .long (x - y)) st).map fun r => (np, L, r, h)
    | .lmul => (jm_l2 (fun x y => .long (x * y)) st).map fun r => (np, L, r, h)
    | .lcmp => (jm_l2 (fun x y => .int (lg_cmp x y)) st).map fun r => (np, L, r, h)
    | .ldiv => match st with
      | .long y :: .long x :: r => if y = 0 then none else some (np, L, .long (x / y) :: r, h)
      | _ => none
    | .lrem => match st with
      | .long y :: .long x :: r => if y = 0 then none else some (np, L, .long (x - x / y * y) :: r, h)
      | _ => none
    | .i2l => (jm_i1 (fun x => .long x.toInt64) st).map fun r => (np, L, r, h)
    | .i2c => (jm_i1 (fun x => .int (x.toUInt32 % 65536).toInt32) st).map fun r => (np, L, r, h)
    | .i2b => (jm_i1 (fun x => .int x.toInt8.toInt32) st).map fun r => (np, L, r, h)
    | .dup => match st with
      | v :: r => if jm_c1 v = true then some (np, L, v :: v :: r, h) else none
      | _ => none
    | .pop => match st with
      | v :: r => if jm_c1 v = true then some (np, L, r, h) else none
      | _ => none
    | .dup2 => match st with
      | .long v :: r => some (np, L, .long v :: .long v :: r, h)
      | v :: w :: r => if jm_c1 v = true ∧ jm_c1 w = true then some (np, L, v :: w :: v :: w :: r, h) else none
      | _ => none
    | .goto _ => some (x, L, st, h)
    | .ifCond .eq _ => jm_if1 (fun a => a = 0) L x np h st
    | .ifCond .ne _ => jm_if1 (fun a => a ≠ 0) L x np h st
    | .ifCond .lt _ => jm_if1 (fun a => a < 0) L x np h st
    | .ifCond .ge _ => jm_if1 (fun a => 0 ≤ a) L x np h st
    | .ifCond .gt _ => jm_if1 (fun a => 0 < a) L x np h st
    | .ifCond .le _ => jm_if1 (fun a => a ≤ 0) L x np h st
    | .if_icmp .eq _ => jm_if2 (fun a b => a = b) L x np h st
    | .if_icmp .ne _ => jm_if2 (fun a b => a ≠ b) L x np h st
    | .if_icmp .lt _ => jm_if2 (fun a b => a < b) L x np h st
    | .if_icmp .ge _ => jm_if2 (fun a b => b ≤ a) L x np h st
    | .if_icmp .gt _ => jm_if2 (fun a b => b < a) L x np h st
    | .if_icmp .le _ => jm_if2 (fun a b => a ≤ b) L x np h st
    | .ifnonnull _ => match st with
      | .ref _ :: r => some (x, L, r, h)
      | .null :: r => some (np, L, r, h)
      | _ => none
    | .tableswitch dflt lo hi offs => match st with
      | .int a :: r => if a.toInt < lo ∨ hi < a.toInt then jm_to pc dflt L r h else match offs[(a.toInt - lo).toNat]? with
        | some off => jm_to pc off L r h
        | none => none
      | _ => none
    | .lookupswitch dflt ps => match st with
      | .int a :: r => jm_to pc (Op.lookupswitch.offset ps.toList dflt a.toInt) L r h
      | _ => none
    | .getfield _ => match st with
      | .ref a :: r => if z = 0 then (jm_getI h a x y).map (fun v => (np, L, .int v :: r, h)) else if z = 1 then (jm_getL h a x y).map (fun v => (np, L, .long v :: r, h)) else (jm_getR h a x y).map (fun v => (np, L, .ref v :: r, h))
      | .retAddr k :: r => if x = 50 ∧ k < G.2.1.length then (if y = 0 then some (np, L, .retAddr (k + 1000) :: r, h) else some (np, L, .int 0 :: r, h)) else none
      | _ => none
    | .getstatic _ => if x = 0 then some (np, L, .int 1 :: st, h) else some (np, L, .float 1 :: st, h)
    | .putfield _ => match st with
      | .int v :: .ref a :: r => if z = 0 ∨ (z = 3 ∧ (v = 0 ∨ v = 1)) then (jm_put h a x y (.int v)).map (fun h' => (np, L, r, h')) else none
      | .long v :: .ref a :: r => if z = 1 then (jm_put h a x y (.long v)).map (fun h' => (np, L, r, h')) else none
      | .ref v :: .ref a :: r => if z = 2 then (jm_put h a x y (.ref v)).map (fun h' => (np, L, r, h')) else none
      | _ => none
    | .iaload => match st with
      | .int k :: .ref a :: r => (jm_aldI h .int a k).map (fun v => (np, L, .int v :: r, h))
      | .int k :: .float u :: r => if u = 0 ∧ jm_in k G.2.2.1 = true then some (np, L, .int (G.2.2.2 k.toNatClampNeg) :: r, h) else none
      | _ => none
    | .baload => match st with
      | .int k :: .ref a :: r => (jm_aldI h .byte a k).map (fun v => (np, L, .int v :: r, h))
      | .int j :: .retAddr k :: r => if k < 1000 then none else match G.2.1[k - 1000]? with
        | some s => if jm_in j s.length = true then some (np, L, .int (s.getD j.toNatClampNeg 0) :: r, h) else none
        | none => none
      | _ => none
    | .laload => match st with
      | .int k :: .ref a :: r => (jm_aldL h a k).map (fun v => (np, L, .long v :: r, h))
      | _ => none
    | .aaload => match st with
      | .int k :: .ref a :: r => match jm_aldR h a k with
        | some (some v) => some (np, L, .ref v :: r, h)
        | some none => some (np, L, .null :: r, h)
        | none => none
      | _ => none
    | .iastore => match st with
      | .int v :: .int k :: .ref a :: r => (jm_astI h .int a k v).map (fun h' => (np, L, r, h'))
      | _ => none
    | .bastore => match st with
      | .int v :: .int k :: .ref a :: r => (jm_astI h .byte a k (vp_nar .byte v)).map (fun h' => (np, L, r, h'))
      | _ => none
    | .lastore => match st with
      | .long v :: .int k :: .ref a :: r => (jm_astL h a k v).map (fun h' => (np, L, r, h'))
      | _ => none
    | .aastore => match st with
      | .ref v :: .int k :: .ref a :: r => (jm_astR h (jm_nam G x) x a k v).map (fun h' => (np, L, r, h'))
      | _ => none
    | .arraylength => match st with
      | .ref a :: r => (jm_len h a).map (fun v => (np, L, .int v :: r, h))
      | .float u :: r => if u = 0 then some (np, L, .int (Int32.ofNat G.2.2.1) :: r, h) else none
      | .retAddr k :: r => if k < 1000 then none else (G.2.1[k - 1000]?).map (fun s => (np, L, .int (Int32.ofNat s.length) :: r, h))
      | _ => none
    | .new _ => some (np, L, .ref h.1.length :: st, jm_add h (.inl (x, jm_fld G x)) (jm_fld G x).length)
    | .newarray .int => match st with
      | .int n :: r => if n < 0 ∨ 65536 < n.toNatClampNeg then none else some (np, L, .ref h.1.length :: r, jm_add h (.inr (.int, (n.toNatClampNeg, .inl fun _ => 0))) n.toNatClampNeg)
      | _ => none
    | .newarray .byte => match st with
      | .int n :: r => if n < 0 ∨ 65536 < n.toNatClampNeg then none else some (np, L, .ref h.1.length :: r, jm_add h (.inr (.byte, (n.toNatClampNeg, .inl fun _ => 0))) n.toNatClampNeg)
      | _ => none
    | .newarray .long => match st with
      | .int n :: r => if n < 0 ∨ 65536 < n.toNatClampNeg then none else some (np, L, .ref h.1.length :: r, jm_add h (.inr (.long, (n.toNatClampNeg, .inr (.inl fun _ => 0)))) n.toNatClampNeg)
      | _ => none
    | .anewarray _ => match st with
      | .int n :: r => if n < 0 ∨ 65536 < n.toNatClampNeg then none else some (np, L, .ref h.1.length :: r, jm_add h (.inr (.object (jm_nam G x), (n.toNatClampNeg, .inr (.inr (.inr (.inr fun _ => none)))))) n.toNatClampNeg)
      | _ => none
    | .multianewarray _ _ => match st with
      | .int k :: .int n :: r => if n < 0 ∨ k < 0 ∨ 65536 < n.toNatClampNeg ∨ 65536 < k.toNatClampNeg then none else
        some (np, L, .ref h.1.length :: r, (h.1 ++ [.inr (.array (if z = 0 then .int else .long), (n.toNatClampNeg, .inr (.inr (.inr (.inr fun i => if i < n.toNatClampNeg then some (h.1.length + 1 + i) else none)))))] ++ List.replicate n.toNatClampNeg (if z = 0 then .inr (.int, (k.toNatClampNeg, .inl fun _ => 0)) else .inr (.long, (k.toNatClampNeg, .inr (.inl fun _ => 0)))), h.2.1 + 1 + n.toNatClampNeg, h.2.2 + n.toNatClampNeg + n.toNatClampNeg * k.toNatClampNeg))
      | _ => none
    | .invokespecial _ => match st with
      | .ref _ :: r => if x = 1000 ∧ jm_lt r = true then some (np, L, r, h) else none
      | _ => none
    | .invokestatic _ => match st with
      | .int b :: .int a :: r => if x = 1003 ∧ jm_lt r = true then some (np, L, .int (if a < b then b else a) :: r, h) else if x = 1004 ∧ jm_lt r = true then some (np, L, .int (if b < a then b else a) :: r, h) else none
      | .long b :: .long a :: r => if x = 1005 ∧ jm_lt r = true then some (np, L, .long (if b < a then a else b) :: r, h) else if x = 1006 ∧ jm_lt r = true then some (np, L, .long (if b < a then b else a) :: r, h) else none
      | _ => none
    | _ => none
def jm_at : List jm_I → Nat → Option jm_I
  | [], _ => none
  | e :: r, pc => if e.1 = pc then some e else jm_at r pc
/-- how a method's locals begin -/
def jm_lay : List Value → List (Option Value)
  | [] => []
  | .long x :: r => some (.long x) :: none :: jm_lay r
  | v :: r => some v :: jm_lay r
def jm_ent (vs : List Value) (n : Nat) : jm_L := jm_lay vs ++ List.replicate (n - (jm_lay vs).length) none
def jm_hnd : List (Nat × Nat × Nat × Nat) → Nat → Nat → Option Nat
  | [], _, _ => none
  | (f, t, hp, k) :: r, pc, E => if f ≤ pc ∧ pc < t ∧ k = E then some hp else jm_hnd r pc E
/-- what an instruction is to the run: 0 an ordinary one, 1 a return of nothing, 2 of an int, 3 of a long, 4 of a reference, 5 a call of a method of the claim's, 6 a throw -/
def jm_kind (e : jm_I) : Nat := match e.2.1 with
  | .return_ => 1
  | .ireturn => 2
  | .lreturn => 3
  | .areturn => 4
  | .invokevirtual _ => if e.2.2.2.1 < 1000 then 5 else 0
  | .invokestatic _ => if e.2.2.2.1 < 1000 then 5 else 0
  | .invokespecial _ => if e.2.2.2.1 < 1000 then 5 else 0
  | .new _ => if 2000 ≤ e.2.2.2.1 then 6 else 0
  | _ => 0
def jm_ret (z : Nat) (k : Nat) (st : List Value) : Option (Option Value) := match k, st with
  | 1, [] => some none
  | 2, [.int x] => if z = 0 ∨ (z = 1 ∧ (x = 0 ∨ x = 1)) ∨ (z = 2 ∧ x = 0) ∨ (z = 3 ∧ narrow .char (.int x) = .int x) then some (some (.int x)) else none
  | 3, [.long x] => some (some (.long x))
  | 4, [.ref x] => some (some (.ref x))
  | _, _ => none
/-- a return's kind: 0 an int, 1 a boolean, 2 a byte, 3 a char -/
def jm_rz : Option FieldType → Nat
  | some .int => 0
  | some .boolean => 1
  | some .byte => 2
  | some .char => 3
  | _ => 4
/-- the receiver is an object of the method's class -/
def jm_rcv (G : jm_G) (h : jm_H) (i : Instr) (ci : Nat) (vs : List Value) : Bool := match i with
  | .invokestatic _ => true
  | .invokespecial _ => match vs with
    | .ref _ :: _ => true
    | _ => false
  | _ => match vs with
    | .ref a :: _ => match h.1[a]? with
      | some (.inl (c, _)) => decide (c = ci)
      | _ => false
    | .retAddr k :: _ => decide (ci = 50 ∧ k < G.2.1.length)
    | _ => false
/-- constructors throw nothing -/
def jm_sp : Instr → Bool
  | .invokespecial _ => true
  | _ => false
/-- the run: fuel, depth of calls, the method, where it stands -/
def jm_run (G : jm_G) (tb : List jm_M) : Nat → Nat → jm_M → Nat → jm_L → List Value → jm_H → Option (jm_O × jm_H)
  | 0, _, _, _, _, _, _ => none
  | n + 1, d, M, pc, L0, st, h => match jm_at M.2.2.2.2.2.2 pc with
    | none => none
    | some e => match (if e.2.2.2.2.2.2.2.2 = [] then L0 else jm_mask e.2.2.2.2.2.2.2.2 L0) with
      | L => match jm_kind e with
        | 0 => (jm_stp G e L st h).bind fun q => jm_run G tb n d M q.1 q.2.1 q.2.2.1 q.2.2.2
        | 5 => match d, tb[e.2.2.2.1]? with
          | d' + 1, some M' => if M'.2.2.2.2.2.1 ≤ st.length ∧ jm_rcv G h e.2.1 e.2.2.2.2.2.1 (st.take M'.2.2.2.2.2.1).reverse = true ∧ jm_lt (st.drop M'.2.2.2.2.2.1) = true ∧ (jm_lay (st.take M'.2.2.2.2.2.1).reverse).length ≤ M'.2.2.1 then
              match jm_run G tb n d' M' 0 (jm_ent (st.take M'.2.2.2.2.2.1).reverse M'.2.2.1) [] h with
              | some (.inl v, h') => jm_run G tb n (d' + 1) M e.2.2.1 L (v.toList ++ st.drop M'.2.2.2.2.2.1) h'
              | some (.inr E, h') => if jm_sp e.2.1 = true then none else match jm_hnd M.2.2.2.2.1 pc E with
                | some hp => jm_run G tb n (d' + 1) M hp L [.float 1] h'
                | none => if M.2.2.2.2.1 = [] then some (.inr E, h') else none
              | none => none
            else none
          | _, _ => none
        | 6 => if M.2.2.2.2.1 = [] ∧ st = [] then some (.inr (e.2.2.2.1 - 2000), (h.1, h.2.1 + 1, h.2.2 + 6)) else none
        | k => (jm_ret (jm_rz M.2.2.2.1) k st).map fun v => (.inl v, h)
end
section
/-! how the abstract machine's values, cells, locals and stacks stand for the real ones -/
/-- places keep their addresses -/
def jr_le (ws ws' : va_W) : Prop := ∀ (k : Nat) (w : Nat × va_E), ws[k]? = some w → ∃ w', ws'[k]? = some w' ∧ w'.1 = w.1
def jr_V (b : Nat) (sa : Nat → Nat) (ws : va_W) (v V : Value) : Prop := match v with
  | .ref k => ∃ w, ws[k]? = some w ∧ V = .ref w.1
  | .float x => (x = 0 ∧ V = .ref b) ∨ (x ≠ 0 ∧ (V = .null ∨ ∃ a, V = .ref a))
  | .retAddr x => V = .ref (sa x)
  | .double _ => False
  | v => V = v
def jr_O (ws : va_W) (o O : Option Nat) : Prop := match o with
  | none => O = none
  | some k => ∃ w, ws[k]? = some w ∧ O = some w.1
def jr_A (ws : va_W) (x y : (Nat → Int32) ⊕ (Nat → Int64) ⊕ (Nat → UInt32) ⊕ (Nat → UInt64) ⊕ (Nat → Option Nat)) : Prop := match x with
  | .inr (.inr (.inr (.inr q))) => ∃ q', y = .inr (.inr (.inr (.inr q'))) ∧ ∀ i, jr_O ws (q i) (q' i)
  | z => y = z
def jr_C (b : Nat) (sa : Nat → Nat) (ws : va_W) (tys : List (ClassId × FieldType)) (c : jm_C) (E : va_E) : Prop := match c with
  | .inl o => ∃ Fs : List Value, E = .inr (o.1, Fs) ∧ Fs.length = o.2.length ∧ ∀ (j : Nat) (v : Value), o.2[j]? = some v → ∃ V, Fs[j]? = some V ∧ jr_V b sa ws v V
  | .inr a => ∃ (cA : ClassId) (y : (Nat → Int32) ⊕ (Nat → Int64) ⊕ (Nat → UInt32) ⊕ (Nat → UInt64) ⊕ (Nat → Option Nat)), E = .inl (cA, (a.2.1, y)) ∧ (cA, a.1) ∈ tys ∧ jr_A ws a.2.2 y
def jr_H (b : Nat) (sa : Nat → Nat) (ws : va_W) (tys : List (ClassId × FieldType)) (h : jm_H) : Prop := ws.length = h.1.length ∧ ∀ (k : Nat) (c : jm_C), h.1[k]? = some c → ∃ w, ws[k]? = some w ∧ jr_C b sa ws tys c w.2
def jr_L (b : Nat) (sa : Nat → Nat) (ws : va_W) (L : jm_L) (ls : Array Slot) (n : Nat) : Prop := L.length = n ∧ ls.size = n ∧ lv_wf ls ∧ ∀ (i : Nat) (v : Value), L[i]? = some (some v) → ∃ V, jr_V b sa ws v V ∧ ls[i]? = some (.val V)
def jr_S (b : Nat) (sa : Nat → Nat) (ws : va_W) : List Value → List Value → Prop
  | [], [] => True
  | v :: r, V :: R => jr_V b sa ws v V ∧ jr_S b sa ws r R
  | _, _ => False
theorem jr_le.rf {ws : va_W} : jr_le ws ws := fun k w h => ⟨w, h, rfl⟩
theorem jr_le.tr {a b c : va_W} (h : jr_le a b) (g : jr_le b c) : jr_le a c := fun k w q => by
  obtain ⟨w1, h1, e1⟩ := h k w q
  obtain ⟨w2, h2, e2⟩ := g k w1 h1
  exact ⟨w2, h2, e2.trans e1⟩
theorem jr_le.set {ws : va_W} {q a : Nat} {E E' : va_E} (h : ws[q]? = some (a, E)) : jr_le ws (ws.set q (a, E')) := fun k w hk => by
  by_cases e : q = k
  · subst e
    refine ⟨(a, E'), ?_, ?_⟩
    · rw [List.getElem?_set_self (List.getElem?_eq_some_iff.mp h).1]
    · rw [h] at hk; cases hk; rfl
  · exact ⟨w, by rw [List.getElem?_set_ne e]; exact hk, rfl⟩
theorem jr_le.app {ws : va_W} (l : va_W) : jr_le ws (ws ++ l) := fun k w hk => ⟨w, by rw [List.getElem?_append_left (List.getElem?_eq_some_iff.mp hk).1]; exact hk, rfl⟩
theorem jr_V.mono {b : Nat} {sa : Nat → Nat} {ws ws' : va_W} {v V : Value} (g : jr_le ws ws') (h : jr_V b sa ws v V) : jr_V b sa ws' v V := by
  cases v with
  | ref k =>
    obtain ⟨w, h1, rfl⟩ := h
    obtain ⟨w', h2, e⟩ := g k w h1
    exact ⟨w', h2, by rw [e]⟩
  | _ => exact h
theorem jr_O.mono {ws ws' : va_W} {o O : Option Nat} (g : jr_le ws ws') (h : jr_O ws o O) : jr_O ws' o O := by
  cases o with
  | none => exact h
  | some k =>
    obtain ⟨w, h1, rfl⟩ := h
    obtain ⟨w', h2, e⟩ := g k w h1
    exact ⟨w', h2, by rw [e]⟩
theorem jr_A.mono {ws ws' : va_W} {x y} (g : jr_le ws ws') (h : jr_A ws x y) : jr_A ws' x y := by
  rcases x with x | x | x | x | x
  · exact h
  · exact h
  · exact h
  · exact h
  · obtain ⟨q, h1, h2⟩ := h
    exact ⟨q, h1, fun i => (h2 i).mono g⟩
theorem jr_C.mono {b : Nat} {sa : Nat → Nat} {ws ws' : va_W} {tys tys' : List (ClassId × FieldType)} {c : jm_C} {E : va_E} (g : jr_le ws ws') (gt : ∀ q ∈ tys, q ∈ tys') (h : jr_C b sa ws tys c E) : jr_C b sa ws' tys' c E := by
  cases c with
  | inl o =>
    obtain ⟨Fs, h1, h2, h3⟩ := h
    refine ⟨Fs, h1, h2, fun j v hv => ?_⟩
    obtain ⟨V, h4, h5⟩ := h3 j v hv
    exact ⟨V, h4, h5.mono g⟩
  | inr a =>
    obtain ⟨cA, y, h1, h2, h3⟩ := h
    exact ⟨cA, y, h1, gt _ h2, h3.mono g⟩
theorem jr_L.mono {b : Nat} {sa : Nat → Nat} {ws ws' : va_W} {L : jm_L} {ls : Array Slot} {n : Nat} (g : jr_le ws ws') (h : jr_L b sa ws L ls n) : jr_L b sa ws' L ls n := by
  obtain ⟨h1, h2, h3, h4⟩ := h
  refine ⟨h1, h2, h3, fun i v hv => ?_⟩
  obtain ⟨V, h5, h6⟩ := h4 i v hv
  exact ⟨V, h5.mono g, h6⟩
theorem jr_S.mono {b : Nat} {sa : Nat → Nat} {ws ws' : va_W} (g : jr_le ws ws') : ∀ {st S : List Value}, jr_S b sa ws st S → jr_S b sa ws' st S
  | [], [], _ => trivial
  | _ :: _, _ :: _, ⟨h1, h2⟩ => ⟨h1.mono g, jr_S.mono g h2⟩
  | [], _ :: _, h => h.elim
  | _ :: _, [], h => h.elim
/-- a cell is written -/
theorem jr_H.set {b : Nat} {sa : Nat → Nat} {ws : va_W} {tys : List (ClassId × FieldType)} {h : jm_H} (g : jr_H b sa ws tys h) {q a : Nat} {E E' : va_E} {c' : jm_C} (hq : ws[q]? = some (a, E)) (hc : jr_C b sa ws tys c' E') : jr_H b sa (ws.set q (a, E')) tys (h.1.set q c', h.2) := by
  obtain ⟨g1, g2⟩ := g
  have hl := (List.getElem?_eq_some_iff.mp hq).1
  refine ⟨by simp [g1], fun k c hk => ?_⟩
  have hk : (h.1.set q c')[k]? = some c := hk
  by_cases e : q = k
  · subst e
    rw [List.getElem?_set_self (by rw [← g1]; exact hl)] at hk
    cases hk
    exact ⟨(a, E'), List.getElem?_set_self hl, hc.mono (jr_le.set hq) (fun _ h => h)⟩
  · rw [List.getElem?_set_ne e] at hk
    obtain ⟨w, h1, h2⟩ := g2 k c hk
    exact ⟨w, by rw [List.getElem?_set_ne e]; exact h1, h2.mono (jr_le.set hq) (fun _ h => h)⟩
/-- a cell is made -/
theorem jr_H.push {b : Nat} {sa : Nat → Nat} {ws : va_W} {tys tys' : List (ClassId × FieldType)} {h : jm_H} (g : jr_H b sa ws tys h) {a : Nat} {E : va_E} {c : jm_C} {kk : Nat × Nat} (gt : ∀ q ∈ tys, q ∈ tys') (hc : jr_C b sa (ws ++ [(a, E)]) tys' c E) : jr_H b sa (ws ++ [(a, E)]) tys' (h.1 ++ [c], kk) := by
  obtain ⟨g1, g2⟩ := g
  refine ⟨by simp [g1], fun k c' hk => ?_⟩
  have hk : (h.1 ++ [c])[k]? = some c' := hk
  by_cases e : k < h.1.length
  · rw [List.getElem?_append_left e] at hk
    obtain ⟨w, h1, h2⟩ := g2 k c' hk
    exact ⟨w, by rw [List.getElem?_append_left (by rw [g1]; exact e)]; exact h1, h2.mono (jr_le.app _) gt⟩
  · have hz := (List.getElem?_eq_some_iff.mp hk).1
    simp at hz
    have e2 : k = h.1.length := by omega
    subst e2
    rw [List.getElem?_append_right (Nat.le_refl _)] at hk
    simp at hk
    subst hk
    refine ⟨(a, E), ?_, hc⟩
    rw [List.getElem?_append_right (by rw [g1]; exact Nat.le_refl _), g1]
    simp
theorem jr_L.load {b : Nat} {sa : Nat → Nat} {ws : va_W} {L : jm_L} {ls : Array Slot} {n i : Nat} {v : Value} (h : jr_L b sa ws L ls n) (hv : L[i]? = some (some v)) : ∃ V, jr_V b sa ws v V ∧ ls[i]? = some (.val V) := h.2.2.2 i v hv
/-- the locals as the kit lists them -/
def jr_lv (b : Nat) (ls : Array Slot) : Nat → List (Nat × Value)
  | 0 => []
  | k + 1 => jr_lv b ls k ++ (match ls[k]? with
    | some (.val V) => [(k, V)]
    | _ => [])
theorem jr_lv_mem {b : Nat} {ls : Array Slot} : ∀ (n : Nat) (i : Nat) (V : Value), (i, V) ∈ jr_lv b ls n ↔ i < n ∧ ls[i]? = some (.val V) := by
  intro n
  induction n with
  | zero => intro i V; simp [jr_lv]
  | succ n ih =>
    intro i V
    rw [jr_lv, List.mem_append, ih]
    constructor
    · rintro (⟨h1, h2⟩ | h)
      · exact ⟨by omega, h2⟩
      · cases hn : ls[n]? with
        | none => rw [hn] at h; simp at h
        | some z =>
          rw [hn] at h
          cases z <;> simp at h
          obtain ⟨rfl, rfl⟩ := h
          exact ⟨by omega, hn⟩
    · rintro ⟨h1, h2⟩
      by_cases e : i < n
      · exact Or.inl ⟨e, h2⟩
      · have e2 : i = n := by omega
        subst e2
        right
        rw [h2]
        simp
theorem jr_lv_has {ls : Array Slot} {n : Nat} (h1 : ls.size = n) (h2 : lv_wf ls) : lv_has ls n (jr_lv 0 ls n) := ⟨h1, h2, fun q hq => ((jr_lv_mem n q.1 q.2).mp hq).2⟩
theorem jr_cat {b : Nat} {sa : Nat → Nat} {ws : va_W} {v V : Value} (h : jr_V b sa ws v V) (hv : jm_c1 v = false) : V.category = 2 := by
  cases v <;> simp [jm_c1] at hv
  cases (show V = _ from h); rfl
theorem jr_cat1 {b : Nat} {sa : Nat → Nat} {ws : va_W} {v V : Value} (h : jr_V b sa ws v V) (hv : jm_c1 v = true) : V.category = 1 := by
  cases v with
  | ref k => obtain ⟨w, -, rfl⟩ := h; rfl
  | float x => rcases h with ⟨-, rfl⟩ | ⟨-, rfl | ⟨a, rfl⟩⟩ <;> rfl
  | double x => exact h.elim
  | long x => simp [jm_c1] at hv
  | int x => cases (show V = _ from h); rfl
  | null => cases (show V = _ from h); rfl
  | retAddr x => cases (show V = _ from h); rfl
theorem jr_w {b : Nat} {sa : Nat → Nat} {ws : va_W} {v V : Value} (h : jr_V b sa ws v V) : V.category = jm_w v := by
  cases v with
  | long x => exact jr_cat h rfl
  | ref k => exact jr_cat1 h rfl
  | float x => exact jr_cat1 h rfl
  | double x => exact jr_cat1 h rfl
  | int x => exact jr_cat1 h rfl
  | null => exact jr_cat1 h rfl
  | retAddr x => exact jr_cat1 h rfl
theorem jr_ref {b : Nat} {sa : Nat → Nat} {ws : va_W} {v V : Value} (h : jr_V b sa ws v V) (hv : jm_isA v = true) : V = .null ∨ ∃ a, V = .ref a := by
  cases v <;> simp [jm_isA] at hv
  · rcases h with ⟨-, rfl⟩ | ⟨-, rfl | ⟨a, rfl⟩⟩
    · exact Or.inr ⟨_, rfl⟩
    · exact Or.inl rfl
    · exact Or.inr ⟨_, rfl⟩
  · exact Or.inl h
  · obtain ⟨w, -, rfl⟩ := h; exact Or.inr ⟨_, rfl⟩
  · exact Or.inr ⟨_, h⟩
theorem jr_kill_len (L : jm_L) (i : Nat) : (jm_kill L i).length = L.length := by
  cases i with
  | zero => rfl
  | succ k =>
    simp only [jm_kill]
    split <;> simp
theorem jr_kill_at {L : jm_L} {i j : Nat} {u : Value} (h : (jm_kill L i)[j]? = some (some u)) : L[j]? = some (some u) ∧ (j + 1 = i → jm_c1 u = true) := by
  cases i with
  | zero => exact ⟨h, fun e => absurd e (Nat.succ_ne_zero j)⟩
  | succ k =>
    simp only [jm_kill] at h
    split at h
    next x hk =>
      by_cases e : k = j
      · subst e
        rw [List.getElem?_set_self (List.getElem?_eq_some_iff.mp hk).1] at h
        cases h
      · rw [List.getElem?_set_ne e] at h
        exact ⟨h, fun e2 => absurd (by omega) e⟩
    next hk =>
      refine ⟨h, fun e => ?_⟩
      have e2 : j = k := by omega
      subst e2
      cases u <;> first | rfl | exact absurd h (hk _)
theorem jr_st1 {b : Nat} {sa : Nat → Nat} {ws : va_W} {L L' : jm_L} {ls ls' : Array Slot} {n i : Nat} {v V : Value} (h : jr_L b sa ws L ls n) (e : jm_st1 L i v = some L') (hv : jr_V b sa ws v V)
    (h' : lv_has ls' n ((i, V) :: (jr_lv 0 ls n).filter (fun q => !(q.1 == i) && !(q.1 + 1 == i && q.2.category == 2)))) : jr_L b sa ws L' ls' n := by
  obtain ⟨h1, h2, h3, h4⟩ := h
  unfold jm_st1 at e
  split at e
  case isFalse => cases e
  case isTrue hi =>
  cases e
  refine ⟨by simp [jr_kill_len, h1], h'.1, h'.2.1, fun j u hu => ?_⟩
  by_cases ej : i = j
  · subst ej
    rw [List.getElem?_set_self (by rw [jr_kill_len]; exact hi)] at hu
    cases hu
    exact ⟨V, hv, h'.2.2 (i, V) List.mem_cons_self⟩
  · rw [List.getElem?_set_ne ej] at hu
    obtain ⟨g1, g2⟩ := jr_kill_at hu
    obtain ⟨U, g3, g4⟩ := h4 j u g1
    refine ⟨U, g3, h'.2.2 (j, U) (List.mem_cons_of_mem _ (List.mem_filter.mpr ⟨(jr_lv_mem n j U).mpr ⟨by rw [← h2]; exact (Array.getElem?_eq_some_iff.mp g4).1, g4⟩, ?_⟩))⟩
    have e1 : (j == i) = false := by simp; exact fun q => ej q.symm
    by_cases e2 : j + 1 = i
    · have e3 := jr_cat1 g3 (g2 e2)
      simp [e1, e3]
    · simp [e1, e2]
theorem jr_st2 {b : Nat} {sa : Nat → Nat} {ws : va_W} {L L' : jm_L} {ls ls' : Array Slot} {n i : Nat} {v V : Value} (h : jr_L b sa ws L ls n) (e : jm_st2 L i v = some L') (hv : jr_V b sa ws v V)
    (h' : lv_has ls' n ((i, V) :: (jr_lv 0 ls n).filter (fun q => !(q.1 == i) && (!(q.1 == i + 1) && !(q.1 + 1 == i && q.2.category == 2))))) : jr_L b sa ws L' ls' n := by
  obtain ⟨h1, h2, h3, h4⟩ := h
  unfold jm_st2 at e
  split at e
  case isFalse => cases e
  case isTrue hi =>
  cases e
  refine ⟨by simp [jr_kill_len, h1], h'.1, h'.2.1, fun j u hu => ?_⟩
  by_cases e0 : i + 1 = j
  · subst e0
    rw [List.getElem?_set_self (by simp [jr_kill_len]; exact hi)] at hu
    cases hu
  rw [List.getElem?_set_ne e0] at hu
  by_cases ej : i = j
  · subst ej
    rw [List.getElem?_set_self (by rw [jr_kill_len]; omega)] at hu
    cases hu
    exact ⟨V, hv, h'.2.2 (i, V) List.mem_cons_self⟩
  · rw [List.getElem?_set_ne ej] at hu
    obtain ⟨g1, g2⟩ := jr_kill_at hu
    obtain ⟨U, g3, g4⟩ := h4 j u g1
    refine ⟨U, g3, h'.2.2 (j, U) (List.mem_cons_of_mem _ (List.mem_filter.mpr ⟨(jr_lv_mem n j U).mpr ⟨by rw [← h2]; exact (Array.getElem?_eq_some_iff.mp g4).1, g4⟩, ?_⟩))⟩
    have e1 : (j == i) = false := by simp; exact fun q => ej q.symm
    have e4 : (j == i + 1) = false := by simp; exact fun q => e0 q.symm
    by_cases e2 : j + 1 = i
    · have e3 := jr_cat1 g3 (g2 e2)
      simp [e1, e4, e3]
    · simp [e1, e4, e2]
theorem jr_mask {b : Nat} {sa : Nat → Nat} {ws : va_W} : ∀ {bs : List Bool} {L : jm_L} {i : Nat} {v : Value}, (jm_mask bs L)[i]? = some (some v) → L[i]? = some (some v)
  | [], L, i, v, h => by simp [jm_mask] at h
  | _ :: _, [], i, v, h => by simp [jm_mask] at h
  | m :: bs, u :: L, 0, v, h => by
    simp [jm_mask] at h
    simp [h.2]
  | m :: bs, u :: L, i + 1, v, h => by
    simp [jm_mask] at h ⊢
    exact jr_mask (b := b) (sa := sa) (ws := ws) h
theorem jr_mask_len : ∀ {bs : List Bool} {L : jm_L}, bs.length = L.length → (jm_mask bs L).length = L.length
  | [], [], _ => rfl
  | _ :: _, [], h => by simp at h
  | [], _ :: _, h => by simp at h
  | m :: bs, u :: L, h => by simp [jm_mask]; exact jr_mask_len (by simpa using h)
theorem jr_L.masked {b : Nat} {sa : Nat → Nat} {ws : va_W} {L : jm_L} {ls : Array Slot} {n : Nat} {bs : List Bool} (h : jr_L b sa ws L ls n) (hm : bs.length = n) : jr_L b sa ws (jm_mask bs L) ls n := by
  obtain ⟨h1, h2, h3, h4⟩ := h
  exact ⟨by rw [jr_mask_len (by rw [hm, h1])]; exact h1, h2, h3, fun i v hv => h4 i v (jr_mask (b := b) (sa := sa) (ws := ws) hv)⟩
end
section
/-! one instruction of the abstract machine is one of the real one's -/
/-- the classes of which arrays are made -/
def jr_AO : List String := ["CardCups$Diary", "CardCups$Habit"]
/-- what a printed row of code must say (decided row by row) -/
def jm_il : Instr → Nat → Nat
  | .bipush _, _ => 2
  | .ldc _, _ => 2
  | .iload _, _ => 2
  | .lload _, _ => 2
  | .aload _, _ => 2
  | .istore _, _ => 2
  | .lstore _, _ => 2
  | .astore _, _ => 2
  | .newarray _, _ => 2
  | .sipush _, _ => 3
  | .ldc_w _, _ => 3
  | .ldc2_w _, _ => 3
  | .iinc _ _, _ => 3
  | .goto _, _ => 3
  | .ifCond _ _, _ => 3
  | .if_icmp _ _, _ => 3
  | .ifnonnull _, _ => 3
  | .getfield _, _ => 3
  | .getstatic _, _ => 3
  | .putfield _, _ => 3
  | .new _, _ => 3
  | .anewarray _, _ => 3
  | .invokevirtual _, _ => 3
  | .invokestatic _, _ => 3
  | .invokespecial _, _ => 3
  | .multianewarray _ _, _ => 4
  | .tableswitch _ _ _ _, l => l
  | .lookupswitch _ _, l => l
  | _, _ => 1
def jm_zt : Nat → FieldType → Bool
  | 0, .int => true
  | 1, .long => true
  | 2, .object _ => true
  | 2, .array _ => true
  | 3, .boolean => true
  | _, _ => false
/-- how many parameters the descriptor names -/
def jm_pn (M : jm_M) : Option Nat := (parseMethodDescriptor M.1.desc).map (fun d => d.parameters.length)
def jm_okb (cl : List vw_C) (tx : List String) (tb : List jm_M) (W : List Cond) (own nm : String) (cc : ByteArray) (nL : Nat) (e : jm_I) : Bool := match e with
  | (pc, i, np, x, y, z, w, v, bs) => decide (decode cc pc = .ok (i, np - pc)) && (decide (np = pc + jm_il i (np - pc)) && (decide (bs = [] ∨ bs.length = nL) && (match i with
    | .iconst n => decide (v = .int (Int32.ofInt n))
    | .lconst n => decide (v = .long (Int64.ofNat (n : Nat)))
    | .bipush n => decide (v = .int (Int8.ofInt n).toInt32)
    | .sipush n => decide (v = .int (Int16.ofInt n).toInt32)
    | .ldc idx => match v with
      | .int k => decide (W[w]? = some (.constant own idx k))
      | .retAddr j => match tx[j]? with
        | some t => decide (W[w]? = some (.stringRef own idx t))
        | none => false
      | _ => false
    | .ldc_w idx => match v with
      | .int k => decide (W[w]? = some (.constant own idx k))
      | .retAddr j => match tx[j]? with
        | some t => decide (W[w]? = some (.stringRef own idx t))
        | none => false
      | _ => false
    | .ldc2_w idx => match v with
      | .long k => decide (W[w]? = some (.constantLong own idx k))
      | _ => false
    | .goto off => decide ((pc : Int) + off = (x : Int))
    | .ifCond _ off => decide ((pc : Int) + off = (x : Int))
    | .if_icmp _ off => decide ((pc : Int) + off = (x : Int))
    | .ifnonnull off => decide ((pc : Int) + off = (x : Int))
    | .lookupswitch _ ps => (ps.toList.zip (ps.toList.drop 1)).all (fun (a, next) => a.1 < next.1)
    | .getfield idx => if x = 50 then decide (W[w]? = some (if y = 0 then .fieldLink own idx "java/lang/String" "value" "[B" else .fieldLink own idx "java/lang/String" "coder" "B")) else match cl[x]? with
      | some q => decide (y < q.2.2) && decide (W[w]? = some (.fieldLink own idx (q.2.1 y).1 (q.2.1 y).2.1 (q.2.1 y).2.2.1))
      | none => false
    | .getstatic idx => decide (W[w]? = some (if x = 0 then .fieldLink own idx "java/lang/String" "COMPACT_STRINGS" "Z" else .fieldLink own idx "jdk/internal/util/Preconditions" "SIOOBE_FORMATTER" "Ljava/util/function/BiFunction;"))
    | .putfield idx => match cl[x]? with
      | some q => decide (y < q.2.2) && (decide (W[w]? = some (.fieldLink own idx (q.2.1 y).1 (q.2.1 y).2.1 (q.2.1 y).2.2.1)) && ((match parseFieldDescriptor (q.2.1 y).2.2.1 with
        | some ty => jm_zt z ty
        | none => false) && (if (q.2.1 y).2.2.2 = true then decide (nm = "<init>") && decide ((q.2.1 y).1 = own) else true)))
      | none => false
    | .aastore => decide (x < cl.length)
    | .new idx => match cl[x]? with
      | some q => decide (W[w]? = some (.classLink own idx q.1))
      | none => decide (2000 ≤ x)
    | .newarray _ => true
    | .anewarray idx => match cl[x]? with
      | some q => decide (W[w]? = some (.classLink own idx q.1)) && decide (q.1 ∈ jr_AO)
      | none => false
    | .multianewarray idx n => decide (n = 2) && (if z = 0 then decide (W[w]? = some (.classLink own idx "[[I")) else decide (W[w]? = some (.classLink own idx "[[J")))
    | .invokespecial idx => if x = 1000 then decide (W[w]? = some (.methodLink own idx objectInit)) else match tb[x]? with
      | some M => decide (W[w]? = some (.methodLink own idx M.1)) && (decide (M.1.name = "<init>") && (decide (M.2.2.2.2.1 = []) && decide ((jm_pn M).map (· + 1) = some M.2.2.2.2.2.1)))
      | none => decide (x = 1999)
    | .invokevirtual idx => match tb[x]? with
      | some M => decide (W[w]? = some (.methodLink own idx M.1)) && (decide (if z = 50 then M.1.cls = "java/lang/String" else (cl[z]?).map (fun q => q.1) = some M.1.cls) && (decide (M.1.name ≠ "<init>") && (decide (M.2.2.2.2.1 = []) && decide ((jm_pn M).map (· + 1) = some M.2.2.2.2.2.1))))
      | none => false
    | .invokestatic idx => if x = 1003 then decide (W[w]? = some (.methodLink own idx Lib.Math.max.name)) else if x = 1004 then decide (W[w]? = some (.methodLink own idx Lib.Math.min.name)) else if x = 1005 then decide (W[w]? = some (.methodLink own idx Lib.MathLoose.max_long.x)) else if x = 1006 then decide (W[w]? = some (.methodLink own idx Lib.MathLoose.min_long.x)) else match tb[x]? with
      | some M => decide (W[w]? = some (.methodLink own idx M.1)) && decide (jm_pn M = some M.2.2.2.2.2.1)
      | none => false
    | _ => true)))
theorem jm_i1_inv {f : Int32 → Value} {st r : List Value} (h : jm_i1 f st = some r) : ∃ (x : Int32) (r0 : List Value), st = .int x :: r0 ∧ r = f x :: r0 := by
  unfold jm_i1 at h
  split at h <;> cases h
  exact ⟨_, _, rfl, rfl⟩
theorem jm_i2_inv {f : Int32 → Int32 → Value} {st r : List Value} (h : jm_i2 f st = some r) : ∃ (x y : Int32) (r0 : List Value), st = .int y :: .int x :: r0 ∧ r = f x y :: r0 := by
  unfold jm_i2 at h
  split at h <;> cases h
  exact ⟨_, _, _, rfl, rfl⟩
theorem jm_l2_inv {f : Int64 → Int64 → Value} {st r : List Value} (h : jm_l2 f st = some r) : ∃ (x y : Int64) (r0 : List Value), st = .long y :: .long x :: r0 ∧ r = f x y :: r0 := by
  unfold jm_l2 at h
  split at h <;> cases h
  exact ⟨_, _, _, rfl, rfl⟩
theorem jr_S_c {b : Nat} {sa : Nat → Nat} {ws : va_W} {v : Value} {r S : List Value} (h : jr_S b sa ws (v :: r) S) : ∃ (V : Value) (R : List Value), S = V :: R ∧ jr_V b sa ws v V ∧ jr_S b sa ws r R := by
  cases S with
  | nil => exact h.elim
  | cons V R => exact ⟨V, R, rfl, h.1, h.2⟩
theorem jr_S_i {b : Nat} {sa : Nat → Nat} {ws : va_W} {x : Int32} {r S : List Value} (h : jr_S b sa ws (.int x :: r) S) : ∃ R : List Value, S = .int x :: R ∧ jr_S b sa ws r R := by
  obtain ⟨V, R, rfl, h1, h2⟩ := jr_S_c h
  cases (show V = _ from h1)
  exact ⟨R, rfl, h2⟩
theorem jr_S_l {b : Nat} {sa : Nat → Nat} {ws : va_W} {x : Int64} {r S : List Value} (h : jr_S b sa ws (.long x :: r) S) : ∃ R : List Value, S = .long x :: R ∧ jr_S b sa ws r R := by
  obtain ⟨V, R, rfl, h1, h2⟩ := jr_S_c h
  cases (show V = _ from h1)
  exact ⟨R, rfl, h2⟩
theorem jr_S_r {b : Nat} {sa : Nat → Nat} {ws : va_W} {k : Nat} {r S : List Value} (h : jr_S b sa ws (.ref k :: r) S) : ∃ (w : Nat × va_E) (R : List Value), ws[k]? = some w ∧ S = .ref w.1 :: R ∧ jr_S b sa ws r R := by
  obtain ⟨V, R, rfl, ⟨w, h1, rfl⟩, h2⟩ := jr_S_c h
  exact ⟨w, R, h1, rfl, h2⟩
theorem jr_S_w {b : Nat} {sa : Nat → Nat} {ws : va_W} : ∀ {st S : List Value}, jr_S b sa ws st S → (S.map fun v => v.category).sum = (st.map jm_w).sum
  | [], [], _ => rfl
  | _ :: _, _ :: _, ⟨h1, h2⟩ => by simp [jr_w h1, jr_S_w h2]
  | [], _ :: _, h => h.elim
  | _ :: _, [], h => h.elim
theorem jr_S_len {b : Nat} {sa : Nat → Nat} {ws : va_W} : ∀ {st S : List Value}, jr_S b sa ws st S → S.length = st.length
  | [], [], _ => rfl
  | _ :: _, _ :: _, ⟨h1, h2⟩ => by simp [jr_S_len h2]
  | [], _ :: _, h => h.elim
  | _ :: _, [], h => h.elim
theorem jm_ldI_inv {L : jm_L} {i : Nat} {v : Value} (h : jm_ldI L i = some v) : ∃ x : Int32, v = .int x ∧ L[i]? = some (some (.int x)) := by
  unfold jm_ldI at h
  split at h
  next x e => cases h; exact ⟨x, rfl, e⟩
  next => cases h
theorem jm_ldL_inv {L : jm_L} {i : Nat} {v : Value} (h : jm_ldL L i = some v) : ∃ x : Int64, v = .long x ∧ L[i]? = some (some (.long x)) := by
  unfold jm_ldL at h
  split at h
  next x e => cases h; exact ⟨x, rfl, e⟩
  next => cases h
theorem jm_ldA_inv {L : jm_L} {i : Nat} {v : Value} (h : jm_ldA L i = some v) : jm_isA v = true ∧ L[i]? = some (some v) := by
  unfold jm_ldA at h
  split at h
  next u e =>
    split at h
    next g => cases h; exact ⟨g, e⟩
    next => cases h
  next => cases h
theorem jm_in_of {i : Int32} {n : Nat} (h : jm_in i n = true) : vp_in i n := by
  unfold jm_in at h
  simp at h
  rintro (q | q)
  · exact absurd q (by simpa using h.1)
  · omega
/-- the words that a callee may take from its caller -/
def jr_T : List Cond := lw_tbl.filter goodWord
theorem jr_g {w : Cond} (h : w ∈ lw_tbl) (g : goodWord w = true) : w ∈ jr_T := List.mem_filter.mpr ⟨h, g⟩
/-- an object of class E may stand where T is wanted -/
def jr_Ca (E T : String) (U : State) : Prop := ∃ c t : ClassId, U.vm.findClass E = some c ∧ U.vm.findClass T = some t ∧ U.vm.assignable c t = true
/-- what is known of the class number ci -/
def jr_cls (cl : List vw_C) (G : jm_G) : Prop := ∀ (ci : Nat) (q : vw_C), cl[ci]? = some q → (∀ w ∈ u_ws q.1 q.2.1 q.2.2, w ∈ jr_T) ∧ (∃ ty : Nat → FieldType, (∀ k, k < q.2.2 → parseFieldDescriptor (q.2.1 k).2.2.1 = some (ty k)) ∧ ∀ j, j < q.2.2 → defaultValue (ty j) = vp_V (jm_fld G ci) j) ∧ (∀ a, a < q.2.2 → ∀ b, b < q.2.2 → a ≠ b → (q.2.1 a).2.1 ≠ (q.2.1 b).2.1) ∧ Cond.instantiable q.1 q.2.2 ∈ jr_T ∧ Cond.initialized q.1 ∈ jr_T ∧ jm_nam G ci = q.1 ∧ (jm_fld G ci).length = q.2.2 ∧ ∀ v ∈ jm_fld G ci, v = .int 0 ∨ v = .long 0 ∨ v = .null
def jr_NSE : String := "java/util/NoSuchElementException"
def jr_IAE : String := "java/lang/IllegalArgumentException"
/-- what a method's start knows of the script, the texts, and the cells that may be written -/
def jr_K (tx : List String) (lits : List (List Int32)) (b L : Nat) (xs : Nat → Int32) (sa : Nat → Nat) (A : Nat → Prop) (s : State) : Prop :=
  (∀ q, s.heap.size ≤ q → A q) ∧ (va_X b L xs s s.heap ∧ b < s.heap.size ∧ ¬ A b) ∧ (∀ (own : String) (idx : Nat) (t : String) (j : Nat), Cond.stringRef own idx t ∈ lw_tbl → tx[j]? = some t → vk_R own idx t (sa j) s) ∧
  vk_S lits.length (lits.map List.length) lits sa (fun i => sa (i + 1000)) A s s.heap ∧
  (va_Z "java/lang/String" "COMPACT_STRINGS" "Z" (.int 1) A s s.heap ∧ va_Zq "jdk/internal/util/Preconditions" "SIOOBE_FORMATTER" "Ljava/util/function/BiFunction;" A s s.heap) ∧
  (vx_Zq Bundle.tN "UNASSIGNED_STACK" Bundle.steD A s s.heap ∧ vx_Zq Bundle.tN "SUPPRESSED_SENTINEL" Bundle.listD A s s.heap) ∧
  ((∀ C ∈ jr_AO, va_AO C s) ∧ va_AOA .int s ∧ va_AOA .long s) ∧ (jr_Ca jr_NSE jr_NSE s ∧ jr_Ca jr_IAE jr_IAE s ∧ va_Nc jr_IAE jr_NSE s)
def jr_I (D : va_G) (cl : List vw_C) (A : Nat → Prop) (b : Nat) (sa : Nat → Nat) (s : State) (h : jm_H) (H : Heap) (locs : List Loc) (ws : va_W) (tys : List (ClassId × FieldType)) : Prop :=
  va_K D cl tys s ∧ va_P D cl ws H ∧ va_D A ws ∧ va_S A s.heap H locs ∧ jr_H b sa ws tys h
/-- the frame that walks -/
def jr_E (p : Program) (c : Code) (cc : ByteArray) (nL : Nat) (s : State) (args : Array Value) (own nm : String) (m : MethodId) (meth : Method) (R : Room) : Prop :=
  p.tables.exec = Jvm.exec ∧ c.code = cc ∧ c.maxLocals = nL ∧ (∀ w ∈ jr_T, w.before args s = true) ∧ s.vm.findClass own = some m.cls ∧ meth.name = nm ∧ 10 ≤ R.frames ∧ 300 ≤ R.locals
section JR
variable {p : Program} {l : Launch} {e : Env} {R : Room} {s : State} {m : MethodId} {args : Array Value} {below : List Frame} {meth : Method} {c : Code} {H : Heap} {locs : List Loc} {cells slots : Nat} {Q : State → Prop}
variable {cc : ByteArray} {pc : Nat} {ls : Array Slot} {D : va_G} {cl : List vw_C} {A : Nat → Prop} {tys : List (ClassId × FieldType)} {ws : va_W}
variable {G : jm_G} {tx : List String} {tb : List jm_M} {Wd : List Cond} {own nm : String} {nL b Ln : Nat} {xs : Nat → Int32} {sa : Nat → Nat} {L : jm_L} {st S : List Value} {h : jm_H}
/-- what goes on behind an instruction -/
def jr_go (p : Program) (l : Launch) (e : Env) (R : Room) (s : State) (m : MethodId) (args : Array Value) (below : List Frame) (meth : Method) (c : Code) (D : va_G) (cl : List vw_C) (A : Nat → Prop) (nL b : Nat) (sa : Nat → Nat) (ws : va_W) (tys : List (ClassId × FieldType)) (h : jm_H) (cells slots : Nat) (Q : State → Prop) (q : jm_S) : Prop :=
  ∀ (ws' : va_W) (tys' : List (ClassId × FieldType)) (H' : Heap) (locs' : List Loc) (ls' : Array Slot) (S' : List Value) (cells' slots' : Nat), jr_le ws ws' → (∀ t ∈ tys, t ∈ tys') → jr_I D cl A b sa s q.2.2.2 H' locs' ws' tys' → jr_L b sa ws' q.2.1 ls' nL → jr_S b sa ws' q.2.2.1 S' → cells' + h.2.1 = cells + q.2.2.2.2.1 → slots' + h.2.2 = slots + q.2.2.2.2.2 → W p l e R s m args below meth c H' locs' cells' slots' Q (F0 m q.1 ls' S')
/-- .. where no cell was touched -/
theorem jr_go.k0 {q : jm_S} (k : jr_go p l e R s m args below meth c D cl A nL b sa ws tys h cells slots Q q) (hI : jr_I D cl A b sa s h H locs ws tys) (hq : q.2.2.2 = h) {ls' : Array Slot} {S' : List Value} (h1 : jr_L b sa ws q.2.1 ls' nL) (h2 : jr_S b sa ws q.2.2.1 S') : W p l e R s m args below meth c H locs cells slots Q (F0 m q.1 ls' S') :=
  k ws tys H locs ls' S' cells slots jr_le.rf (fun _ h => h) (by rw [hq]; exact hI) h1 h2 (by rw [hq]) (by rw [hq])
set_option maxHeartbeats 4000000 in
theorem jr_iconst {n : Int} {np x y z w : Nat} {v : Value} {bs : List Bool} {q : jm_S} (hE : jr_E p c cc nL s args own nm m meth R) (hK : jr_K tx G.2.1 b G.2.2.1 G.2.2.2 sa A s) (hC : jr_cls cl G) (hW : ∀ w ∈ Wd, w ∈ lw_tbl) (he : jm_okb cl tx tb Wd own nm cc nL (pc, .iconst n, np, x, y, z, w, v, bs) = true) (hst : jm_stp G (pc, .iconst n, np, x, y, z, w, v, bs) L st h = some q)
    (hI : jr_I D cl A b sa s h H locs ws tys) (hL : jr_L b sa ws L ls nL) (hS : jr_S b sa ws st S) (hroom : cells + q.2.2.2.2.1 ≤ R.cells + h.2.1 ∧ slots + q.2.2.2.2.2 ≤ R.slots + h.2.2) (k : jr_go p l e R s m args below meth c D cl A nL b sa ws tys h cells slots Q q) : W p l e R s m args below meth c H locs cells slots Q (F0 m pc ls S) := by
  obtain ⟨hx, hb, hml, hts, hown, hnm, hRf, hRl⟩ := hE
  simp only [jm_okb, Bool.and_eq_true, decide_eq_true_eq] at he
  obtain ⟨hd0, hnp, hmk, ho⟩ := he
  simp only [jm_il] at hnp
  simp only [jm_stp] at hst
  have hd : decode cc pc = .ok (.iconst n, 1) := by rw [show np - pc = 1 by omega] at hd0; exact hd0
  cases hst; subst hnp; subst ho
  exact lv_iconst hx hb hd rfl (k.k0 hI rfl hL ⟨rfl, hS⟩)
set_option maxHeartbeats 4000000 in
theorem jr_lconst {n : Fin 2} {np x y z w : Nat} {v : Value} {bs : List Bool} {q : jm_S} (hE : jr_E p c cc nL s args own nm m meth R) (hK : jr_K tx G.2.1 b G.2.2.1 G.2.2.2 sa A s) (hC : jr_cls cl G) (hW : ∀ w ∈ Wd, w ∈ lw_tbl) (he : jm_okb cl tx tb Wd own nm cc nL (pc, .lconst n, np, x, y, z, w, v, bs) = true) (hst : jm_stp G (pc, .lconst n, np, x, y, z, w, v, bs) L st h = some q)
    (hI : jr_I D cl A b sa s h H locs ws tys) (hL : jr_L b sa ws L ls nL) (hS : jr_S b sa ws st S) (hroom : cells + q.2.2.2.2.1 ≤ R.cells + h.2.1 ∧ slots + q.2.2.2.2.2 ≤ R.slots + h.2.2) (k : jr_go p l e R s m args below meth c D cl A nL b sa ws tys h cells slots Q q) : W p l e R s m args below meth c H locs cells slots Q (F0 m pc ls S) := by
  obtain ⟨hx, hb, hml, hts, hown, hnm, hRf, hRl⟩ := hE
  simp only [jm_okb, Bool.and_eq_true, decide_eq_true_eq] at he
  obtain ⟨hd0, hnp, hmk, ho⟩ := he
  simp only [jm_il] at hnp
  simp only [jm_stp] at hst
  have hd : decode cc pc = .ok (.lconst n, 1) := by rw [show np - pc = 1 by omega] at hd0; exact hd0
  cases hst; subst hnp; subst ho
  exact lv_lconst hx hb hd rfl (k.k0 hI rfl hL ⟨rfl, hS⟩)
set_option maxHeartbeats 4000000 in
theorem jr_bipush {n : Int} {np x y z w : Nat} {v : Value} {bs : List Bool} {q : jm_S} (hE : jr_E p c cc nL s args own nm m meth R) (hK : jr_K tx G.2.1 b G.2.2.1 G.2.2.2 sa A s) (hC : jr_cls cl G) (hW : ∀ w ∈ Wd, w ∈ lw_tbl) (he : jm_okb cl tx tb Wd own nm cc nL (pc, .bipush n, np, x, y, z, w, v, bs) = true) (hst : jm_stp G (pc, .bipush n, np, x, y, z, w, v, bs) L st h = some q)
    (hI : jr_I D cl A b sa s h H locs ws tys) (hL : jr_L b sa ws L ls nL) (hS : jr_S b sa ws st S) (hroom : cells + q.2.2.2.2.1 ≤ R.cells + h.2.1 ∧ slots + q.2.2.2.2.2 ≤ R.slots + h.2.2) (k : jr_go p l e R s m args below meth c D cl A nL b sa ws tys h cells slots Q q) : W p l e R s m args below meth c H locs cells slots Q (F0 m pc ls S) := by
  obtain ⟨hx, hb, hml, hts, hown, hnm, hRf, hRl⟩ := hE
  simp only [jm_okb, Bool.and_eq_true, decide_eq_true_eq] at he
  obtain ⟨hd0, hnp, hmk, ho⟩ := he
  simp only [jm_il] at hnp
  simp only [jm_stp] at hst
  have hd : decode cc pc = .ok (.bipush n, 2) := by rw [show np - pc = 2 by omega] at hd0; exact hd0
  cases hst; subst hnp; subst ho
  exact lv_bipush hx hb hd rfl (k.k0 hI rfl hL ⟨rfl, hS⟩)
set_option maxHeartbeats 4000000 in
theorem jr_sipush {n : Int} {np x y z w : Nat} {v : Value} {bs : List Bool} {q : jm_S} (hE : jr_E p c cc nL s args own nm m meth R) (hK : jr_K tx G.2.1 b G.2.2.1 G.2.2.2 sa A s) (hC : jr_cls cl G) (hW : ∀ w ∈ Wd, w ∈ lw_tbl) (he : jm_okb cl tx tb Wd own nm cc nL (pc, .sipush n, np, x, y, z, w, v, bs) = true) (hst : jm_stp G (pc, .sipush n, np, x, y, z, w, v, bs) L st h = some q)
    (hI : jr_I D cl A b sa s h H locs ws tys) (hL : jr_L b sa ws L ls nL) (hS : jr_S b sa ws st S) (hroom : cells + q.2.2.2.2.1 ≤ R.cells + h.2.1 ∧ slots + q.2.2.2.2.2 ≤ R.slots + h.2.2) (k : jr_go p l e R s m args below meth c D cl A nL b sa ws tys h cells slots Q q) : W p l e R s m args below meth c H locs cells slots Q (F0 m pc ls S) := by
  obtain ⟨hx, hb, hml, hts, hown, hnm, hRf, hRl⟩ := hE
  simp only [jm_okb, Bool.and_eq_true, decide_eq_true_eq] at he
  obtain ⟨hd0, hnp, hmk, ho⟩ := he
  simp only [jm_il] at hnp
  simp only [jm_stp] at hst
  have hd : decode cc pc = .ok (.sipush n, 3) := by rw [show np - pc = 3 by omega] at hd0; exact hd0
  cases hst; subst hnp; subst ho
  exact lv_sipush hx hb hd rfl (k.k0 hI rfl hL ⟨rfl, hS⟩)
set_option maxHeartbeats 4000000 in
theorem jr_ldc2_w {n : Nat} {np x y z w : Nat} {v : Value} {bs : List Bool} {q : jm_S} (hE : jr_E p c cc nL s args own nm m meth R) (hK : jr_K tx G.2.1 b G.2.2.1 G.2.2.2 sa A s) (hC : jr_cls cl G) (hW : ∀ w ∈ Wd, w ∈ lw_tbl) (he : jm_okb cl tx tb Wd own nm cc nL (pc, .ldc2_w n, np, x, y, z, w, v, bs) = true) (hst : jm_stp G (pc, .ldc2_w n, np, x, y, z, w, v, bs) L st h = some q)
    (hI : jr_I D cl A b sa s h H locs ws tys) (hL : jr_L b sa ws L ls nL) (hS : jr_S b sa ws st S) (hroom : cells + q.2.2.2.2.1 ≤ R.cells + h.2.1 ∧ slots + q.2.2.2.2.2 ≤ R.slots + h.2.2) (k : jr_go p l e R s m args below meth c D cl A nL b sa ws tys h cells slots Q q) : W p l e R s m args below meth c H locs cells slots Q (F0 m pc ls S) := by
  obtain ⟨hx, hb, hml, hts, hown, hnm, hRf, hRl⟩ := hE
  simp only [jm_okb, Bool.and_eq_true, decide_eq_true_eq] at he
  obtain ⟨hd0, hnp, hmk, ho⟩ := he
  simp only [jm_il] at hnp
  simp only [jm_stp] at hst
  have hd : decode cc pc = .ok (.ldc2_w n, 3) := by rw [show np - pc = 3 by omega] at hd0; exact hd0
  cases hst; subst hnp
  split at ho
  next kk =>
    have ho := of_decide_eq_true ho
    exact lv_ldc2 hx hb hown (hts _ (jr_g (hW _ (List.mem_of_getElem? ho)) rfl)) hd (k.k0 hI rfl hL ⟨rfl, hS⟩)
  next => cases ho
set_option maxHeartbeats 4000000 in
theorem jr_iload {n : Nat} {np x y z w : Nat} {v : Value} {bs : List Bool} {q : jm_S} (hE : jr_E p c cc nL s args own nm m meth R) (hK : jr_K tx G.2.1 b G.2.2.1 G.2.2.2 sa A s) (hC : jr_cls cl G) (hW : ∀ w ∈ Wd, w ∈ lw_tbl) (he : jm_okb cl tx tb Wd own nm cc nL (pc, .iload n, np, x, y, z, w, v, bs) = true) (hst : jm_stp G (pc, .iload n, np, x, y, z, w, v, bs) L st h = some q)
    (hI : jr_I D cl A b sa s h H locs ws tys) (hL : jr_L b sa ws L ls nL) (hS : jr_S b sa ws st S) (hroom : cells + q.2.2.2.2.1 ≤ R.cells + h.2.1 ∧ slots + q.2.2.2.2.2 ≤ R.slots + h.2.2) (k : jr_go p l e R s m args below meth c D cl A nL b sa ws tys h cells slots Q q) : W p l e R s m args below meth c H locs cells slots Q (F0 m pc ls S) := by
  obtain ⟨hx, hb, hml, hts, hown, hnm, hRf, hRl⟩ := hE
  simp only [jm_okb, Bool.and_eq_true, decide_eq_true_eq] at he
  obtain ⟨hd0, hnp, hmk, ho⟩ := he
  simp only [jm_il] at hnp
  simp only [jm_stp] at hst
  have hd : decode cc pc = .ok (.iload n, 2) := by rw [show np - pc = 2 by omega] at hd0; exact hd0
  obtain ⟨u, h1, rfl⟩ := Option.map_eq_some_iff.mp hst
  obtain ⟨u', rfl, h2⟩ := jm_ldI_inv h1
  obtain ⟨V, h3, h4⟩ := hL.load h2
  cases (show V = _ from h3)
  subst hnp
  exact lv_iload hx hb hd h4 (k.k0 hI rfl hL ⟨rfl, hS⟩)
set_option maxHeartbeats 4000000 in
theorem jr_iload_n {n : Fin 4} {np x y z w : Nat} {v : Value} {bs : List Bool} {q : jm_S} (hE : jr_E p c cc nL s args own nm m meth R) (hK : jr_K tx G.2.1 b G.2.2.1 G.2.2.2 sa A s) (hC : jr_cls cl G) (hW : ∀ w ∈ Wd, w ∈ lw_tbl) (he : jm_okb cl tx tb Wd own nm cc nL (pc, .iload_n n, np, x, y, z, w, v, bs) = true) (hst : jm_stp G (pc, .iload_n n, np, x, y, z, w, v, bs) L st h = some q)
    (hI : jr_I D cl A b sa s h H locs ws tys) (hL : jr_L b sa ws L ls nL) (hS : jr_S b sa ws st S) (hroom : cells + q.2.2.2.2.1 ≤ R.cells + h.2.1 ∧ slots + q.2.2.2.2.2 ≤ R.slots + h.2.2) (k : jr_go p l e R s m args below meth c D cl A nL b sa ws tys h cells slots Q q) : W p l e R s m args below meth c H locs cells slots Q (F0 m pc ls S) := by
  obtain ⟨hx, hb, hml, hts, hown, hnm, hRf, hRl⟩ := hE
  simp only [jm_okb, Bool.and_eq_true, decide_eq_true_eq] at he
  obtain ⟨hd0, hnp, hmk, ho⟩ := he
  simp only [jm_il] at hnp
  simp only [jm_stp] at hst
  have hd : decode cc pc = .ok (.iload_n n, 1) := by rw [show np - pc = 1 by omega] at hd0; exact hd0
  obtain ⟨u, h1, rfl⟩ := Option.map_eq_some_iff.mp hst
  obtain ⟨u', rfl, h2⟩ := jm_ldI_inv h1
  obtain ⟨V, h3, h4⟩ := hL.load h2
  cases (show V = _ from h3)
  subst hnp
  exact lv_iload_n hx hb hd rfl h4 (k.k0 hI rfl hL ⟨rfl, hS⟩)
set_option maxHeartbeats 4000000 in
theorem jr_lload {n : Nat} {np x y z w : Nat} {v : Value} {bs : List Bool} {q : jm_S} (hE : jr_E p c cc nL s args own nm m meth R) (hK : jr_K tx G.2.1 b G.2.2.1 G.2.2.2 sa A s) (hC : jr_cls cl G) (hW : ∀ w ∈ Wd, w ∈ lw_tbl) (he : jm_okb cl tx tb Wd own nm cc nL (pc, .lload n, np, x, y, z, w, v, bs) = true) (hst : jm_stp G (pc, .lload n, np, x, y, z, w, v, bs) L st h = some q)
    (hI : jr_I D cl A b sa s h H locs ws tys) (hL : jr_L b sa ws L ls nL) (hS : jr_S b sa ws st S) (hroom : cells + q.2.2.2.2.1 ≤ R.cells + h.2.1 ∧ slots + q.2.2.2.2.2 ≤ R.slots + h.2.2) (k : jr_go p l e R s m args below meth c D cl A nL b sa ws tys h cells slots Q q) : W p l e R s m args below meth c H locs cells slots Q (F0 m pc ls S) := by
  obtain ⟨hx, hb, hml, hts, hown, hnm, hRf, hRl⟩ := hE
  simp only [jm_okb, Bool.and_eq_true, decide_eq_true_eq] at he
  obtain ⟨hd0, hnp, hmk, ho⟩ := he
  simp only [jm_il] at hnp
  simp only [jm_stp] at hst
  have hd : decode cc pc = .ok (.lload n, 2) := by rw [show np - pc = 2 by omega] at hd0; exact hd0
  obtain ⟨u, h1, rfl⟩ := Option.map_eq_some_iff.mp hst
  obtain ⟨u', rfl, h2⟩ := jm_ldL_inv h1
  obtain ⟨V, h3, h4⟩ := hL.load h2
  cases (show V = _ from h3)
  subst hnp
  exact lv_lload hx hb hd h4 (k.k0 hI rfl hL ⟨rfl, hS⟩)
set_option maxHeartbeats 4000000 in
theorem jr_lload_n {n : Fin 4} {np x y z w : Nat} {v : Value} {bs : List Bool} {q : jm_S} (hE : jr_E p c cc nL s args own nm m meth R) (hK : jr_K tx G.2.1 b G.2.2.1 G.2.2.2 sa A s) (hC : jr_cls cl G) (hW : ∀ w ∈ Wd, w ∈ lw_tbl) (he : jm_okb cl tx tb Wd own nm cc nL (pc, .lload_n n, np, x, y, z, w, v, bs) = true) (hst : jm_stp G (pc, .lload_n n, np, x, y, z, w, v, bs) L st h = some q)
    (hI : jr_I D cl A b sa s h H locs ws tys) (hL : jr_L b sa ws L ls nL) (hS : jr_S b sa ws st S) (hroom : cells + q.2.2.2.2.1 ≤ R.cells + h.2.1 ∧ slots + q.2.2.2.2.2 ≤ R.slots + h.2.2) (k : jr_go p l e R s m args below meth c D cl A nL b sa ws tys h cells slots Q q) : W p l e R s m args below meth c H locs cells slots Q (F0 m pc ls S) := by
  obtain ⟨hx, hb, hml, hts, hown, hnm, hRf, hRl⟩ := hE
  simp only [jm_okb, Bool.and_eq_true, decide_eq_true_eq] at he
  obtain ⟨hd0, hnp, hmk, ho⟩ := he
  simp only [jm_il] at hnp
  simp only [jm_stp] at hst
  have hd : decode cc pc = .ok (.lload_n n, 1) := by rw [show np - pc = 1 by omega] at hd0; exact hd0
  obtain ⟨u, h1, rfl⟩ := Option.map_eq_some_iff.mp hst
  obtain ⟨u', rfl, h2⟩ := jm_ldL_inv h1
  obtain ⟨V, h3, h4⟩ := hL.load h2
  cases (show V = _ from h3)
  subst hnp
  exact lv_lload_n hx hb hd rfl h4 (k.k0 hI rfl hL ⟨rfl, hS⟩)
set_option maxHeartbeats 4000000 in
theorem jr_aload {n : Nat} {np x y z w : Nat} {v : Value} {bs : List Bool} {q : jm_S} (hE : jr_E p c cc nL s args own nm m meth R) (hK : jr_K tx G.2.1 b G.2.2.1 G.2.2.2 sa A s) (hC : jr_cls cl G) (hW : ∀ w ∈ Wd, w ∈ lw_tbl) (he : jm_okb cl tx tb Wd own nm cc nL (pc, .aload n, np, x, y, z, w, v, bs) = true) (hst : jm_stp G (pc, .aload n, np, x, y, z, w, v, bs) L st h = some q)
    (hI : jr_I D cl A b sa s h H locs ws tys) (hL : jr_L b sa ws L ls nL) (hS : jr_S b sa ws st S) (hroom : cells + q.2.2.2.2.1 ≤ R.cells + h.2.1 ∧ slots + q.2.2.2.2.2 ≤ R.slots + h.2.2) (k : jr_go p l e R s m args below meth c D cl A nL b sa ws tys h cells slots Q q) : W p l e R s m args below meth c H locs cells slots Q (F0 m pc ls S) := by
  obtain ⟨hx, hb, hml, hts, hown, hnm, hRf, hRl⟩ := hE
  simp only [jm_okb, Bool.and_eq_true, decide_eq_true_eq] at he
  obtain ⟨hd0, hnp, hmk, ho⟩ := he
  simp only [jm_il] at hnp
  simp only [jm_stp] at hst
  have hd : decode cc pc = .ok (.aload n, 2) := by rw [show np - pc = 2 by omega] at hd0; exact hd0
  obtain ⟨u, h1, rfl⟩ := Option.map_eq_some_iff.mp hst
  obtain ⟨h0, h2⟩ := jm_ldA_inv h1
  obtain ⟨V, h3, h4⟩ := hL.load h2
  subst hnp
  rcases jr_ref h3 h0 with rfl | ⟨a, rfl⟩
  · exact lv_aloadN hx hb hd h4 (k.k0 hI rfl hL ⟨h3, hS⟩)
  · exact lv_aload hx hb hd h4 (k.k0 hI rfl hL ⟨h3, hS⟩)
set_option maxHeartbeats 4000000 in
theorem jr_aload_n {n : Fin 4} {np x y z w : Nat} {v : Value} {bs : List Bool} {q : jm_S} (hE : jr_E p c cc nL s args own nm m meth R) (hK : jr_K tx G.2.1 b G.2.2.1 G.2.2.2 sa A s) (hC : jr_cls cl G) (hW : ∀ w ∈ Wd, w ∈ lw_tbl) (he : jm_okb cl tx tb Wd own nm cc nL (pc, .aload_n n, np, x, y, z, w, v, bs) = true) (hst : jm_stp G (pc, .aload_n n, np, x, y, z, w, v, bs) L st h = some q)
    (hI : jr_I D cl A b sa s h H locs ws tys) (hL : jr_L b sa ws L ls nL) (hS : jr_S b sa ws st S) (hroom : cells + q.2.2.2.2.1 ≤ R.cells + h.2.1 ∧ slots + q.2.2.2.2.2 ≤ R.slots + h.2.2) (k : jr_go p l e R s m args below meth c D cl A nL b sa ws tys h cells slots Q q) : W p l e R s m args below meth c H locs cells slots Q (F0 m pc ls S) := by
  obtain ⟨hx, hb, hml, hts, hown, hnm, hRf, hRl⟩ := hE
  simp only [jm_okb, Bool.and_eq_true, decide_eq_true_eq] at he
  obtain ⟨hd0, hnp, hmk, ho⟩ := he
  simp only [jm_il] at hnp
  simp only [jm_stp] at hst
  have hd : decode cc pc = .ok (.aload_n n, 1) := by rw [show np - pc = 1 by omega] at hd0; exact hd0
  obtain ⟨u, h1, rfl⟩ := Option.map_eq_some_iff.mp hst
  obtain ⟨h0, h2⟩ := jm_ldA_inv h1
  obtain ⟨V, h3, h4⟩ := hL.load h2
  subst hnp
  rcases jr_ref h3 h0 with rfl | ⟨a, rfl⟩
  · exact lv_aload_nN hx hb hd rfl h4 (k.k0 hI rfl hL ⟨h3, hS⟩)
  · exact lv_aload_n hx hb hd rfl h4 (k.k0 hI rfl hL ⟨h3, hS⟩)
set_option maxHeartbeats 4000000 in
theorem jr_istore {n : Nat} {np x y z w : Nat} {v : Value} {bs : List Bool} {q : jm_S} (hE : jr_E p c cc nL s args own nm m meth R) (hK : jr_K tx G.2.1 b G.2.2.1 G.2.2.2 sa A s) (hC : jr_cls cl G) (hW : ∀ w ∈ Wd, w ∈ lw_tbl) (he : jm_okb cl tx tb Wd own nm cc nL (pc, .istore n, np, x, y, z, w, v, bs) = true) (hst : jm_stp G (pc, .istore n, np, x, y, z, w, v, bs) L st h = some q)
    (hI : jr_I D cl A b sa s h H locs ws tys) (hL : jr_L b sa ws L ls nL) (hS : jr_S b sa ws st S) (hroom : cells + q.2.2.2.2.1 ≤ R.cells + h.2.1 ∧ slots + q.2.2.2.2.2 ≤ R.slots + h.2.2) (k : jr_go p l e R s m args below meth c D cl A nL b sa ws tys h cells slots Q q) : W p l e R s m args below meth c H locs cells slots Q (F0 m pc ls S) := by
  obtain ⟨hx, hb, hml, hts, hown, hnm, hRf, hRl⟩ := hE
  simp only [jm_okb, Bool.and_eq_true, decide_eq_true_eq] at he
  obtain ⟨hd0, hnp, hmk, ho⟩ := he
  simp only [jm_il] at hnp
  simp only [jm_stp] at hst
  have hd : decode cc pc = .ok (.istore n, 2) := by rw [show np - pc = 2 by omega] at hd0; exact hd0
  unfold jm_stI at hst
  split at hst
  case h_2 => cases hst
  case h_1 x0 r =>
    obtain ⟨L', h1, rfl⟩ := Option.map_eq_some_iff.mp hst
    obtain ⟨R0, rfl, hS0⟩ := jr_S_i hS
    have hi : n < nL := by
      unfold jm_st1 at h1
      split at h1
      next g => rw [hL.1] at g; exact g
      next => cases h1
    subst hnp
    exact lv_istore hx hb hd (jr_lv_has hL.2.1 hL.2.2.1) hi rfl (fun ls' hl' => k.k0 hI rfl (jr_st1 hL h1 rfl hl') hS0)
set_option maxHeartbeats 4000000 in
theorem jr_lstore {n : Nat} {np x y z w : Nat} {v : Value} {bs : List Bool} {q : jm_S} (hE : jr_E p c cc nL s args own nm m meth R) (hK : jr_K tx G.2.1 b G.2.2.1 G.2.2.2 sa A s) (hC : jr_cls cl G) (hW : ∀ w ∈ Wd, w ∈ lw_tbl) (he : jm_okb cl tx tb Wd own nm cc nL (pc, .lstore n, np, x, y, z, w, v, bs) = true) (hst : jm_stp G (pc, .lstore n, np, x, y, z, w, v, bs) L st h = some q)
    (hI : jr_I D cl A b sa s h H locs ws tys) (hL : jr_L b sa ws L ls nL) (hS : jr_S b sa ws st S) (hroom : cells + q.2.2.2.2.1 ≤ R.cells + h.2.1 ∧ slots + q.2.2.2.2.2 ≤ R.slots + h.2.2) (k : jr_go p l e R s m args below meth c D cl A nL b sa ws tys h cells slots Q q) : W p l e R s m args below meth c H locs cells slots Q (F0 m pc ls S) := by
  obtain ⟨hx, hb, hml, hts, hown, hnm, hRf, hRl⟩ := hE
  simp only [jm_okb, Bool.and_eq_true, decide_eq_true_eq] at he
  obtain ⟨hd0, hnp, hmk, ho⟩ := he
  simp only [jm_il] at hnp
  simp only [jm_stp] at hst
  have hd : decode cc pc = .ok (.lstore n, 2) := by rw [show np - pc = 2 by omega] at hd0; exact hd0
  unfold jm_stL at hst
  split at hst
  case h_2 => cases hst
  case h_1 x0 r =>
    obtain ⟨L', h1, rfl⟩ := Option.map_eq_some_iff.mp hst
    obtain ⟨R0, rfl, hS0⟩ := jr_S_l hS
    have hi : n + 1 < nL := by
      unfold jm_st2 at h1
      split at h1
      next g => rw [hL.1] at g; exact g
      next => cases h1
    subst hnp
    exact lv_lstore hx hb hd (jr_lv_has hL.2.1 hL.2.2.1) hi rfl (fun ls' hl' => k.k0 hI rfl (jr_st2 hL h1 rfl hl') hS0)
set_option maxHeartbeats 4000000 in
theorem jr_astore {n : Nat} {np x y z w : Nat} {v : Value} {bs : List Bool} {q : jm_S} (hE : jr_E p c cc nL s args own nm m meth R) (hK : jr_K tx G.2.1 b G.2.2.1 G.2.2.2 sa A s) (hC : jr_cls cl G) (hW : ∀ w ∈ Wd, w ∈ lw_tbl) (he : jm_okb cl tx tb Wd own nm cc nL (pc, .astore n, np, x, y, z, w, v, bs) = true) (hst : jm_stp G (pc, .astore n, np, x, y, z, w, v, bs) L st h = some q)
    (hI : jr_I D cl A b sa s h H locs ws tys) (hL : jr_L b sa ws L ls nL) (hS : jr_S b sa ws st S) (hroom : cells + q.2.2.2.2.1 ≤ R.cells + h.2.1 ∧ slots + q.2.2.2.2.2 ≤ R.slots + h.2.2) (k : jr_go p l e R s m args below meth c D cl A nL b sa ws tys h cells slots Q q) : W p l e R s m args below meth c H locs cells slots Q (F0 m pc ls S) := by
  obtain ⟨hx, hb, hml, hts, hown, hnm, hRf, hRl⟩ := hE
  simp only [jm_okb, Bool.and_eq_true, decide_eq_true_eq] at he
  obtain ⟨hd0, hnp, hmk, ho⟩ := he
  simp only [jm_il] at hnp
  simp only [jm_stp] at hst
  have hd : decode cc pc = .ok (.astore n, 2) := by rw [show np - pc = 2 by omega] at hd0; exact hd0
  unfold jm_stA at hst
  split at hst
  case h_2 => cases hst
  case h_1 v0 r =>
    split at hst
    case isFalse => cases hst
    case isTrue g0 =>
    obtain ⟨L', h1, rfl⟩ := Option.map_eq_some_iff.mp hst
    obtain ⟨V, R0, rfl, hV, hS0⟩ := jr_S_c hS
    have hi : n < nL := by
      unfold jm_st1 at h1
      split at h1
      next g => rw [hL.1] at g; exact g
      next => cases h1
    subst hnp
    rcases jr_ref hV g0 with rfl | ⟨a, rfl⟩
    · exact lv_astoreN hx hb hd (jr_lv_has hL.2.1 hL.2.2.1) hi rfl (fun ls' hl' => k.k0 hI rfl (jr_st1 hL h1 hV hl') hS0)
    · exact lv_astore hx hb hd (jr_lv_has hL.2.1 hL.2.2.1) hi rfl (fun ls' hl' => k.k0 hI rfl (jr_st1 hL h1 hV hl') hS0)
set_option maxHeartbeats 4000000 in
theorem jr_istore_n {n : Fin 4} {np x y z w : Nat} {v : Value} {bs : List Bool} {q : jm_S} (hE : jr_E p c cc nL s args own nm m meth R) (hK : jr_K tx G.2.1 b G.2.2.1 G.2.2.2 sa A s) (hC : jr_cls cl G) (hW : ∀ w ∈ Wd, w ∈ lw_tbl) (he : jm_okb cl tx tb Wd own nm cc nL (pc, .istore_n n, np, x, y, z, w, v, bs) = true) (hst : jm_stp G (pc, .istore_n n, np, x, y, z, w, v, bs) L st h = some q)
    (hI : jr_I D cl A b sa s h H locs ws tys) (hL : jr_L b sa ws L ls nL) (hS : jr_S b sa ws st S) (hroom : cells + q.2.2.2.2.1 ≤ R.cells + h.2.1 ∧ slots + q.2.2.2.2.2 ≤ R.slots + h.2.2) (k : jr_go p l e R s m args below meth c D cl A nL b sa ws tys h cells slots Q q) : W p l e R s m args below meth c H locs cells slots Q (F0 m pc ls S) := by
  obtain ⟨hx, hb, hml, hts, hown, hnm, hRf, hRl⟩ := hE
  simp only [jm_okb, Bool.and_eq_true, decide_eq_true_eq] at he
  obtain ⟨hd0, hnp, hmk, ho⟩ := he
  simp only [jm_il] at hnp
  simp only [jm_stp] at hst
  have hd : decode cc pc = .ok (.istore_n n, 1) := by rw [show np - pc = 1 by omega] at hd0; exact hd0
  unfold jm_stI at hst
  split at hst
  case h_2 => cases hst
  case h_1 x0 r =>
    obtain ⟨L', h1, rfl⟩ := Option.map_eq_some_iff.mp hst
    obtain ⟨R0, rfl, hS0⟩ := jr_S_i hS
    have hi : n.val < nL := by
      unfold jm_st1 at h1
      split at h1
      next g => rw [hL.1] at g; exact g
      next => cases h1
    subst hnp
    exact lv_istore_n hx hb hd rfl (jr_lv_has hL.2.1 hL.2.2.1) hi rfl (fun ls' hl' => k.k0 hI rfl (jr_st1 hL h1 rfl hl') hS0)
set_option maxHeartbeats 4000000 in
theorem jr_lstore_n {n : Fin 4} {np x y z w : Nat} {v : Value} {bs : List Bool} {q : jm_S} (hE : jr_E p c cc nL s args own nm m meth R) (hK : jr_K tx G.2.1 b G.2.2.1 G.2.2.2 sa A s) (hC : jr_cls cl G) (hW : ∀ w ∈ Wd, w ∈ lw_tbl) (he : jm_okb cl tx tb Wd own nm cc nL (pc, .lstore_n n, np, x, y, z, w, v, bs) = true) (hst : jm_stp G (pc, .lstore_n n, np, x, y, z, w, v, bs) L st h = some q)
    (hI : jr_I D cl A b sa s h H locs ws tys) (hL : jr_L b sa ws L ls nL) (hS : jr_S b sa ws st S) (hroom : cells + q.2.2.2.2.1 ≤ R.cells + h.2.1 ∧ slots + q.2.2.2.2.2 ≤ R.slots + h.2.2) (k : jr_go p l e R s m args below meth c D cl A nL b sa ws tys h cells slots Q q) : W p l e R s m args below meth c H locs cells slots Q (F0 m pc ls S) := by
  obtain ⟨hx, hb, hml, hts, hown, hnm, hRf, hRl⟩ := hE
  simp only [jm_okb, Bool.and_eq_true, decide_eq_true_eq] at he
  obtain ⟨hd0, hnp, hmk, ho⟩ := he
  simp only [jm_il] at hnp
  simp only [jm_stp] at hst
  have hd : decode cc pc = .ok (.lstore_n n, 1) := by rw [show np - pc = 1 by omega] at hd0; exact hd0
  unfold jm_stL at hst
  split at hst
  case h_2 => cases hst
  case h_1 x0 r =>
    obtain ⟨L', h1, rfl⟩ := Option.map_eq_some_iff.mp hst
    obtain ⟨R0, rfl, hS0⟩ := jr_S_l hS
    have hi : n.val + 1 < nL := by
      unfold jm_st2 at h1
      split at h1
      next g => rw [hL.1] at g; exact g
      next => cases h1
    subst hnp
    exact lv_lstore_n hx hb hd rfl (jr_lv_has hL.2.1 hL.2.2.1) hi rfl (fun ls' hl' => k.k0 hI rfl (jr_st2 hL h1 rfl hl') hS0)
set_option maxHeartbeats 4000000 in
theorem jr_astore_n {n : Fin 4} {np x y z w : Nat} {v : Value} {bs : List Bool} {q : jm_S} (hE : jr_E p c cc nL s args own nm m meth R) (hK : jr_K tx G.2.1 b G.2.2.1 G.2.2.2 sa A s) (hC : jr_cls cl G) (hW : ∀ w ∈ Wd, w ∈ lw_tbl) (he : jm_okb cl tx tb Wd own nm cc nL (pc, .astore_n n, np, x, y, z, w, v, bs) = true) (hst : jm_stp G (pc, .astore_n n, np, x, y, z, w, v, bs) L st h = some q)
    (hI : jr_I D cl A b sa s h H locs ws tys) (hL : jr_L b sa ws L ls nL) (hS : jr_S b sa ws st S) (hroom : cells + q.2.2.2.2.1 ≤ R.cells + h.2.1 ∧ slots + q.2.2.2.2.2 ≤ R.slots + h.2.2) (k : jr_go p l e R s m args below meth c D cl A nL b sa ws tys h cells slots Q q) : W p l e R s m args below meth c H locs cells slots Q (F0 m pc ls S) := by
  obtain ⟨hx, hb, hml, hts, hown, hnm, hRf, hRl⟩ := hE
  simp only [jm_okb, Bool.and_eq_true, decide_eq_true_eq] at he
  obtain ⟨hd0, hnp, hmk, ho⟩ := he
  simp only [jm_il] at hnp
  simp only [jm_stp] at hst
  have hd : decode cc pc = .ok (.astore_n n, 1) := by rw [show np - pc = 1 by omega] at hd0; exact hd0
  unfold jm_stA at hst
  split at hst
  case h_2 => cases hst
  case h_1 v0 r =>
    split at hst
    case isFalse => cases hst
    case isTrue g0 =>
    obtain ⟨L', h1, rfl⟩ := Option.map_eq_some_iff.mp hst
    obtain ⟨V, R0, rfl, hV, hS0⟩ := jr_S_c hS
    have hi : n.val < nL := by
      unfold jm_st1 at h1
      split at h1
      next g => rw [hL.1] at g; exact g
      next => cases h1
    subst hnp
    rcases jr_ref hV g0 with rfl | ⟨a, rfl⟩
    · exact lv_astore_nN hx hb hd rfl (jr_lv_has hL.2.1 hL.2.2.1) hi rfl (fun ls' hl' => k.k0 hI rfl (jr_st1 hL h1 hV hl') hS0)
    · exact lv_astore_n hx hb hd rfl (jr_lv_has hL.2.1 hL.2.2.1) hi rfl (fun ls' hl' => k.k0 hI rfl (jr_st1 hL h1 hV hl') hS0)
set_option maxHeartbeats 4000000 in
theorem jr_iinc {n : Nat} {i0 : Int} {np x y z w : Nat} {v : Value} {bs : List Bool} {q : jm_S} (hE : jr_E p c cc nL s args own nm m meth R) (hK : jr_K tx G.2.1 b G.2.2.1 G.2.2.2 sa A s) (hC : jr_cls cl G) (hW : ∀ w ∈ Wd, w ∈ lw_tbl) (he : jm_okb cl tx tb Wd own nm cc nL (pc, .iinc n i0, np, x, y, z, w, v, bs) = true) (hst : jm_stp G (pc, .iinc n i0, np, x, y, z, w, v, bs) L st h = some q)
    (hI : jr_I D cl A b sa s h H locs ws tys) (hL : jr_L b sa ws L ls nL) (hS : jr_S b sa ws st S) (hroom : cells + q.2.2.2.2.1 ≤ R.cells + h.2.1 ∧ slots + q.2.2.2.2.2 ≤ R.slots + h.2.2) (k : jr_go p l e R s m args below meth c D cl A nL b sa ws tys h cells slots Q q) : W p l e R s m args below meth c H locs cells slots Q (F0 m pc ls S) := by
  obtain ⟨hx, hb, hml, hts, hown, hnm, hRf, hRl⟩ := hE
  simp only [jm_okb, Bool.and_eq_true, decide_eq_true_eq] at he
  obtain ⟨hd0, hnp, hmk, ho⟩ := he
  simp only [jm_il] at hnp
  simp only [jm_stp] at hst
  have hd : decode cc pc = .ok (.iinc n i0, 3) := by rw [show np - pc = 3 by omega] at hd0; exact hd0
  split at hst
  case h_2 => cases hst
  case h_1 x0 h0 =>
    obtain ⟨L', h1, rfl⟩ := Option.map_eq_some_iff.mp hst
    obtain ⟨u', h2, h3⟩ := jm_ldI_inv h0
    cases h2
    obtain ⟨V, h4, h5⟩ := hL.load h3
    cases (show V = _ from h4)
    have hi : n < nL := by
      unfold jm_st1 at h1
      split at h1
      next g => rw [hL.1] at g; exact g
      next => cases h1
    obtain ⟨kk, hkk⟩ := List.getElem?_of_mem ((jr_lv_mem (b := 0) nL n _).mpr ⟨hi, h5⟩)
    subst hnp
    exact lv_iinc hx hb hd (jr_lv_has hL.2.1 hL.2.2.1) hkk rfl hi rfl (fun ls' hl' => k.k0 hI rfl (jr_st1 hL h1 rfl hl') hS)
set_option maxHeartbeats 4000000 in
theorem jr_iadd {np x y z w : Nat} {v : Value} {bs : List Bool} {q : jm_S} (hE : jr_E p c cc nL s args own nm m meth R) (hK : jr_K tx G.2.1 b G.2.2.1 G.2.2.2 sa A s) (hC : jr_cls cl G) (hW : ∀ w ∈ Wd, w ∈ lw_tbl) (he : jm_okb cl tx tb Wd own nm cc nL (pc, .iadd, np, x, y, z, w, v, bs) = true) (hst : jm_stp G (pc, .iadd, np, x, y, z, w, v, bs) L st h = some q)
    (hI : jr_I D cl A b sa s h H locs ws tys) (hL : jr_L b sa ws L ls nL) (hS : jr_S b sa ws st S) (hroom : cells + q.2.2.2.2.1 ≤ R.cells + h.2.1 ∧ slots + q.2.2.2.2.2 ≤ R.slots + h.2.2) (k : jr_go p l e R s m args below meth c D cl A nL b sa ws tys h cells slots Q q) : W p l e R s m args below meth c H locs cells slots Q (F0 m pc ls S) := by
  obtain ⟨hx, hb, hml, hts, hown, hnm, hRf, hRl⟩ := hE
  simp only [jm_okb, Bool.and_eq_true, decide_eq_true_eq] at he
  obtain ⟨hd0, hnp, hmk, ho⟩ := he
  simp only [jm_il] at hnp
  simp only [jm_stp] at hst
  have hd : decode cc pc = .ok (.iadd, 1) := by rw [show np - pc = 1 by omega] at hd0; exact hd0
  obtain ⟨u, h1, rfl⟩ := Option.map_eq_some_iff.mp hst
  obtain ⟨a0, b0, r0, rfl, rfl⟩ := jm_i2_inv h1
  obtain ⟨R0, rfl, hS0⟩ := jr_S_i hS
  obtain ⟨R1, rfl, hS1⟩ := jr_S_i hS0
  subst hnp
  exact lv_iadd hx hb hd (k.k0 hI rfl hL ⟨rfl, hS1⟩)
set_option maxHeartbeats 4000000 in
theorem jr_isub {np x y z w : Nat} {v : Value} {bs : List Bool} {q : jm_S} (hE : jr_E p c cc nL s args own nm m meth R) (hK : jr_K tx G.2.1 b G.2.2.1 G.2.2.2 sa A s) (hC : jr_cls cl G) (hW : ∀ w ∈ Wd, w ∈ lw_tbl) (he : jm_okb cl tx tb Wd own nm cc nL (pc, .isub, np, x, y, z, w, v, bs) = true) (hst : jm_stp G (pc, .isub, np, x, y, z, w, v, bs) L st h = some q)
    (hI : jr_I D cl A b sa s h H locs ws tys) (hL : jr_L b sa ws L ls nL) (hS : jr_S b sa ws st S) (hroom : cells + q.2.2.2.2.1 ≤ R.cells + h.2.1 ∧ slots + q.2.2.2.2.2 ≤ R.slots + h.2.2) (k : jr_go p l e R s m args below meth c D cl A nL b sa ws tys h cells slots Q q) : W p l e R s m args below meth c H locs cells slots Q (F0 m pc ls S) := by
  obtain ⟨hx, hb, hml, hts, hown, hnm, hRf, hRl⟩ := hE
  simp only [jm_okb, Bool.and_eq_true, decide_eq_true_eq] at he
  obtain ⟨hd0, hnp, hmk, ho⟩ := he
  simp only [jm_il] at hnp
  simp only [jm_stp] at hst
  have hd : decode cc pc = .ok (.isub, 1) := by rw [show np - pc = 1 by omega] at hd0; exact hd0
  obtain ⟨u, h1, rfl⟩ := Option.map_eq_some_iff.mp hst
  obtain ⟨a0, b0, r0, rfl, rfl⟩ := jm_i2_inv h1
  obtain ⟨R0, rfl, hS0⟩ := jr_S_i hS
  obtain ⟨R1, rfl, hS1⟩ := jr_S_i hS0
  subst hnp
  exact lv_isub hx hb hd (k.k0 hI rfl hL ⟨rfl, hS1⟩)
set_option maxHeartbeats 4000000 in
theorem jr_imul {np x y z w : Nat} {v : Value} {bs : List Bool} {q : jm_S} (hE : jr_E p c cc nL s args own nm m meth R) (hK : jr_K tx G.2.1 b G.2.2.1 G.2.2.2 sa A s) (hC : jr_cls cl G) (hW : ∀ w ∈ Wd, w ∈ lw_tbl) (he : jm_okb cl tx tb Wd own nm cc nL (pc, .imul, np, x, y, z, w, v, bs) = true) (hst : jm_stp G (pc, .imul, np, x, y, z, w, v, bs) L st h = some q)
    (hI : jr_I D cl A b sa s h H locs ws tys) (hL : jr_L b sa ws L ls nL) (hS : jr_S b sa ws st S) (hroom : cells + q.2.2.2.2.1 ≤ R.cells + h.2.1 ∧ slots + q.2.2.2.2.2 ≤ R.slots + h.2.2) (k : jr_go p l e R s m args below meth c D cl A nL b sa ws tys h cells slots Q q) : W p l e R s m args below meth c H locs cells slots Q (F0 m pc ls S) := by
  obtain ⟨hx, hb, hml, hts, hown, hnm, hRf, hRl⟩ := hE
  simp only [jm_okb, Bool.and_eq_true, decide_eq_true_eq] at he
  obtain ⟨hd0, hnp, hmk, ho⟩ := he
  simp only [jm_il] at hnp
  simp only [jm_stp] at hst
  have hd : decode cc pc = .ok (.imul, 1) := by rw [show np - pc = 1 by omega] at hd0; exact hd0
  obtain ⟨u, h1, rfl⟩ := Option.map_eq_some_iff.mp hst
  obtain ⟨a0, b0, r0, rfl, rfl⟩ := jm_i2_inv h1
  obtain ⟨R0, rfl, hS0⟩ := jr_S_i hS
  obtain ⟨R1, rfl, hS1⟩ := jr_S_i hS0
  subst hnp
  exact lv_imul hx hb hd (k.k0 hI rfl hL ⟨rfl, hS1⟩)
set_option maxHeartbeats 4000000 in
theorem jr_iand {np x y z w : Nat} {v : Value} {bs : List Bool} {q : jm_S} (hE : jr_E p c cc nL s args own nm m meth R) (hK : jr_K tx G.2.1 b G.2.2.1 G.2.2.2 sa A s) (hC : jr_cls cl G) (hW : ∀ w ∈ Wd, w ∈ lw_tbl) (he : jm_okb cl tx tb Wd own nm cc nL (pc, .iand, np, x, y, z, w, v, bs) = true) (hst : jm_stp G (pc, .iand, np, x, y, z, w, v, bs) L st h = some q)
    (hI : jr_I D cl A b sa s h H locs ws tys) (hL : jr_L b sa ws L ls nL) (hS : jr_S b sa ws st S) (hroom : cells + q.2.2.2.2.1 ≤ R.cells + h.2.1 ∧ slots + q.2.2.2.2.2 ≤ R.slots + h.2.2) (k : jr_go p l e R s m args below meth c D cl A nL b sa ws tys h cells slots Q q) : W p l e R s m args below meth c H locs cells slots Q (F0 m pc ls S) := by
  obtain ⟨hx, hb, hml, hts, hown, hnm, hRf, hRl⟩ := hE
  simp only [jm_okb, Bool.and_eq_true, decide_eq_true_eq] at he
  obtain ⟨hd0, hnp, hmk, ho⟩ := he
  simp only [jm_il] at hnp
  simp only [jm_stp] at hst
  have hd : decode cc pc = .ok (.iand, 1) := by rw [show np - pc = 1 by omega] at hd0; exact hd0
  obtain ⟨u, h1, rfl⟩ := Option.map_eq_some_iff.mp hst
  obtain ⟨a0, b0, r0, rfl, rfl⟩ := jm_i2_inv h1
  obtain ⟨R0, rfl, hS0⟩ := jr_S_i hS
  obtain ⟨R1, rfl, hS1⟩ := jr_S_i hS0
  subst hnp
  exact lv_iand hx hb hd (k.k0 hI rfl hL ⟨rfl, hS1⟩)
set_option maxHeartbeats 4000000 in
theorem jr_ior {np x y z w : Nat} {v : Value} {bs : List Bool} {q : jm_S} (hE : jr_E p c cc nL s args own nm m meth R) (hK : jr_K tx G.2.1 b G.2.2.1 G.2.2.2 sa A s) (hC : jr_cls cl G) (hW : ∀ w ∈ Wd, w ∈ lw_tbl) (he : jm_okb cl tx tb Wd own nm cc nL (pc, .ior, np, x, y, z, w, v, bs) = true) (hst : jm_stp G (pc, .ior, np, x, y, z, w, v, bs) L st h = some q)
    (hI : jr_I D cl A b sa s h H locs ws tys) (hL : jr_L b sa ws L ls nL) (hS : jr_S b sa ws st S) (hroom : cells + q.2.2.2.2.1 ≤ R.cells + h.2.1 ∧ slots + q.2.2.2.2.2 ≤ R.slots + h.2.2) (k : jr_go p l e R s m args below meth c D cl A nL b sa ws tys h cells slots Q q) : W p l e R s m args below meth c H locs cells slots Q (F0 m pc ls S) := by
  obtain ⟨hx, hb, hml, hts, hown, hnm, hRf, hRl⟩ := hE
  simp only [jm_okb, Bool.and_eq_true, decide_eq_true_eq] at he
  obtain ⟨hd0, hnp, hmk, ho⟩ := he
  simp only [jm_il] at hnp
  simp only [jm_stp] at hst
  have hd : decode cc pc = .ok (.ior, 1) := by rw [show np - pc = 1 by omega] at hd0; exact hd0
  obtain ⟨u, h1, rfl⟩ := Option.map_eq_some_iff.mp hst
  obtain ⟨a0, b0, r0, rfl, rfl⟩ := jm_i2_inv h1
  obtain ⟨R0, rfl, hS0⟩ := jr_S_i hS
  obtain ⟨R1, rfl, hS1⟩ := jr_S_i hS0
  subst hnp
  exact lv_ior hx hb hd (k.k0 hI rfl hL ⟨rfl, hS1⟩)
set_option maxHeartbeats 4000000 in
theorem jr_ishl {np x y z w : Nat} {v : Value} {bs : List Bool} {q : jm_S} (hE : jr_E p c cc nL s args own nm m meth R) (hK : jr_K tx G.2.1 b G.2.2.1 G.2.2.2 sa A s) (hC : jr_cls cl G) (hW : ∀ w ∈ Wd, w ∈ lw_tbl) (he : jm_okb cl tx tb Wd own nm cc nL (pc, .ishl, np, x, y, z, w, v, bs) = true) (hst : jm_stp G (pc, .ishl, np, x, y, z, w, v, bs) L st h = some q)
    (hI : jr_I D cl A b sa s h H locs ws tys) (hL : jr_L b sa ws L ls nL) (hS : jr_S b sa ws st S) (hroom : cells + q.2.2.2.2.1 ≤ R.cells + h.2.1 ∧ slots + q.2.2.2.2.2 ≤ R.slots + h.2.2) (k : jr_go p l e R s m args below meth c D cl A nL b sa ws tys h cells slots Q q) : W p l e R s m args below meth c H locs cells slots Q (F0 m pc ls S) := by
  obtain ⟨hx, hb, hml, hts, hown, hnm, hRf, hRl⟩ := hE
  simp only [jm_okb, Bool.and_eq_true, decide_eq_true_eq] at he
  obtain ⟨hd0, hnp, hmk, ho⟩ := he
  simp only [jm_il] at hnp
  simp only [jm_stp] at hst
  have hd : decode cc pc = .ok (.ishl, 1) := by rw [show np - pc = 1 by omega] at hd0; exact hd0
  obtain ⟨u, h1, rfl⟩ := Option.map_eq_some_iff.mp hst
  obtain ⟨a0, b0, r0, rfl, rfl⟩ := jm_i2_inv h1
  obtain ⟨R0, rfl, hS0⟩ := jr_S_i hS
  obtain ⟨R1, rfl, hS1⟩ := jr_S_i hS0
  subst hnp
  exact lv_ishl hx hb hd (k.k0 hI rfl hL ⟨rfl, hS1⟩)
set_option maxHeartbeats 4000000 in
theorem jr_ishr {np x y z w : Nat} {v : Value} {bs : List Bool} {q : jm_S} (hE : jr_E p c cc nL s args own nm m meth R) (hK : jr_K tx G.2.1 b G.2.2.1 G.2.2.2 sa A s) (hC : jr_cls cl G) (hW : ∀ w ∈ Wd, w ∈ lw_tbl) (he : jm_okb cl tx tb Wd own nm cc nL (pc, .ishr, np, x, y, z, w, v, bs) = true) (hst : jm_stp G (pc, .ishr, np, x, y, z, w, v, bs) L st h = some q)
    (hI : jr_I D cl A b sa s h H locs ws tys) (hL : jr_L b sa ws L ls nL) (hS : jr_S b sa ws st S) (hroom : cells + q.2.2.2.2.1 ≤ R.cells + h.2.1 ∧ slots + q.2.2.2.2.2 ≤ R.slots + h.2.2) (k : jr_go p l e R s m args below meth c D cl A nL b sa ws tys h cells slots Q q) : W p l e R s m args below meth c H locs cells slots Q (F0 m pc ls S) := by
  obtain ⟨hx, hb, hml, hts, hown, hnm, hRf, hRl⟩ := hE
  simp only [jm_okb, Bool.and_eq_true, decide_eq_true_eq] at he
  obtain ⟨hd0, hnp, hmk, ho⟩ := he
  simp only [jm_il] at hnp
  simp only [jm_stp] at hst
  have hd : decode cc pc = .ok (.ishr, 1) := by rw [show np - pc = 1 by omega] at hd0; exact hd0
  obtain ⟨u, h1, rfl⟩ := Option.map_eq_some_iff.mp hst
  obtain ⟨a0, b0, r0, rfl, rfl⟩ := jm_i2_inv h1
  obtain ⟨R0, rfl, hS0⟩ := jr_S_i hS
  obtain ⟨R1, rfl, hS1⟩ := jr_S_i hS0
  subst hnp
  exact lv_ishr hx hb hd (k.k0 hI rfl hL ⟨rfl, hS1⟩)
set_option maxHeartbeats 4000000 in
theorem jr_iushr {np x y z w : Nat} {v : Value} {bs : List Bool} {q : jm_S} (hE : jr_E p c cc nL s args own nm m meth R) (hK : jr_K tx G.2.1 b G.2.2.1 G.2.2.2 sa A s) (hC : jr_cls cl G) (hW : ∀ w ∈ Wd, w ∈ lw_tbl) (he : jm_okb cl tx tb Wd own nm cc nL (pc, .iushr, np, x, y, z, w, v, bs) = true) (hst : jm_stp G (pc, .iushr, np, x, y, z, w, v, bs) L st h = some q)
    (hI : jr_I D cl A b sa s h H locs ws tys) (hL : jr_L b sa ws L ls nL) (hS : jr_S b sa ws st S) (hroom : cells + q.2.2.2.2.1 ≤ R.cells + h.2.1 ∧ slots + q.2.2.2.2.2 ≤ R.slots + h.2.2) (k : jr_go p l e R s m args below meth c D cl A nL b sa ws tys h cells slots Q q) : W p l e R s m args below meth c H locs cells slots Q (F0 m pc ls S) := by
  obtain ⟨hx, hb, hml, hts, hown, hnm, hRf, hRl⟩ := hE
  simp only [jm_okb, Bool.and_eq_true, decide_eq_true_eq] at he
  obtain ⟨hd0, hnp, hmk, ho⟩ := he
  simp only [jm_il] at hnp
  simp only [jm_stp] at hst
  have hd : decode cc pc = .ok (.iushr, 1) := by rw [show np - pc = 1 by omega] at hd0; exact hd0
  obtain ⟨u, h1, rfl⟩ := Option.map_eq_some_iff.mp hst
  obtain ⟨a0, b0, r0, rfl, rfl⟩ := jm_i2_inv h1
  obtain ⟨R0, rfl, hS0⟩ := jr_S_i hS
  obtain ⟨R1, rfl, hS1⟩ := jr_S_i hS0
  subst hnp
  exact lv_iushr hx hb hd rfl (k.k0 hI rfl hL ⟨rfl, hS1⟩)
set_option maxHeartbeats 4000000 in
theorem jr_ladd {np x y z w : Nat} {v : Value} {bs : List Bool} {q : jm_S} (hE : jr_E p c cc nL s args own nm m meth R) (hK : jr_K tx G.2.1 b G.2.2.1 G.2.2.2 sa A s) (hC : jr_cls cl G) (hW : ∀ w ∈ Wd, w ∈ lw_tbl) (he : jm_okb cl tx tb Wd own nm cc nL (pc, .ladd, np, x, y, z, w, v, bs) = true) (hst : jm_stp G (pc, .ladd, np, x, y, z, w, v, bs) L st h = some q)
    (hI : jr_I D cl A b sa s h H locs ws tys) (hL : jr_L b sa ws L ls nL) (hS : jr_S b sa ws st S) (hroom : cells + q.2.2.2.2.1 ≤ R.cells + h.2.1 ∧ slots + q.2.2.2.2.2 ≤ R.slots + h.2.2) (k : jr_go p l e R s m args below meth c D cl A nL b sa ws tys h cells slots Q q) : W p l e R s m args below meth c H locs cells slots Q (F0 m pc ls S) := by
  obtain ⟨hx, hb, hml, hts, hown, hnm, hRf, hRl⟩ := hE
  simp only [jm_okb, Bool.and_eq_true, decide_eq_true_eq] at he
  obtain ⟨hd0, hnp, hmk, ho⟩ := he
  simp only [jm_il] at hnp
  simp only [jm_stp] at hst
  have hd : decode cc pc = .ok (.ladd, 1) := by rw [show np - pc = 1 by omega] at hd0; exact hd0
  obtain ⟨u, h1, rfl⟩ := Option.map_eq_some_iff.mp hst
  obtain ⟨a0, b0, r0, rfl, rfl⟩ := jm_l2_inv h1
  obtain ⟨R0, rfl, hS0⟩ := jr_S_l hS
  obtain ⟨R1, rfl, hS1⟩ := jr_S_l hS0
  subst hnp
  exact lv_ladd hx hb hd (k.k0 hI rfl hL ⟨rfl, hS1⟩)
set_option maxHeartbeats 4000000 in
theorem jr_lsub {np x y z w : Nat} {v : Value} {bs : List Bool} {q : jm_S} (hE : jr_E p c cc nL s args own nm m meth R) (hK : jr_K tx G.2.1 b G.2.2.1 G.2.2.2 sa A s) (hC : jr_cls cl G) (hW : ∀ w ∈ Wd, w ∈ lw_tbl) (he : jm_okb cl tx tb Wd own nm cc nL (pc, .lsub, np, x, y, z, w, v, bs) = true) (hst : jm_stp G (pc, .lsub, np, x, y, z, w, v, bs) L st h = some q)
    (hI : jr_I D cl A b sa s h H locs ws tys) (hL : jr_L b sa ws L ls nL) (hS : jr_S b sa ws st S) (hroom : cells + q.2.2.2.2.1 ≤ R.cells + h.2.1 ∧ slots + q.2.2.2.2.2 ≤ R.slots + h.2.2) (k : jr_go p l e R s m args below meth c D cl A nL b sa ws tys h cells slots Q q) : W p l e R s m args below meth c H locs cells slots Q (F0 m pc ls S) := by
  obtain ⟨hx, hb, hml, hts, hown, hnm, hRf, hRl⟩ := hE
  simp only [jm_okb, Bool.and_eq_true, decide_eq_true_eq] at he
  obtain ⟨hd0, hnp, hmk, ho⟩ := he
  simp only [jm_il] at hnp
  simp only [jm_stp] at hst
  have hd : decode cc pc = .ok (.lsub, 1) := by rw [show np - pc = 1 by omega] at hd0; exact hd0
  obtain ⟨u, h1, rfl⟩ := Option.map_eq_some_iff.mp hst
  obtain ⟨a0, b0, r0, rfl, rfl⟩ := jm_l2_inv h1
  obtain ⟨R0, rfl, hS0⟩ := jr_S_l hS
  obtain ⟨R1, rfl, hS1⟩ := jr_S_l hS0
  subst hnp
  exact lv_lsub hx hb hd (k.k0 hI rfl hL ⟨rfl, hS1⟩)
set_option maxHeartbeats 4000000 in
theorem jr_lmul {np x y z w : Nat} {v : Value} {bs : List Bool} {q : jm_S} (hE : jr_E p c cc nL s args own nm m meth R) (hK : jr_K tx G.2.1 b G.2.2.1 G.2.2.2 sa A s) (hC : jr_cls cl G) (hW : ∀ w ∈ Wd, w ∈ lw_tbl) (he : jm_okb cl tx tb Wd own nm cc nL (pc, .lmul, np, x, y, z, w, v, bs) = true) (hst : jm_stp G (pc, .lmul, np, x, y, z, w, v, bs) L st h = some q)
    (hI : jr_I D cl A b sa s h H locs ws tys) (hL : jr_L b sa ws L ls nL) (hS : jr_S b sa ws st S) (hroom : cells + q.2.2.2.2.1 ≤ R.cells + h.2.1 ∧ slots + q.2.2.2.2.2 ≤ R.slots + h.2.2) (k : jr_go p l e R s m args below meth c D cl A nL b sa ws tys h cells slots Q q) : W p l e R s m args below meth c H locs cells slots Q (F0 m pc ls S) := by
  obtain ⟨hx, hb, hml, hts, hown, hnm, hRf, hRl⟩ := hE
  simp only [jm_okb, Bool.and_eq_true, decide_eq_true_eq] at he
  obtain ⟨hd0, hnp, hmk, ho⟩ := he
  simp only [jm_il] at hnp
  simp only [jm_stp] at hst
  have hd : decode cc pc = .ok (.lmul, 1) := by rw [show np - pc = 1 by omega] at hd0; exact hd0
  obtain ⟨u, h1, rfl⟩ := Option.map_eq_some_iff.mp hst
  obtain ⟨a0, b0, r0, rfl, rfl⟩ := jm_l2_inv h1
  obtain ⟨R0, rfl, hS0⟩ := jr_S_l hS
  obtain ⟨R1, rfl, hS1⟩ := jr_S_l hS0
  subst hnp
  exact lv_lmul hx hb hd (k.k0 hI rfl hL ⟨rfl, hS1⟩)
set_option maxHeartbeats 4000000 in
theorem jr_lcmp {np x y z w : Nat} {v : Value} {bs : List Bool} {q : jm_S} (hE : jr_E p c cc nL s args own nm m meth R) (hK : jr_K tx G.2.1 b G.2.2.1 G.2.2.2 sa A s) (hC : jr_cls cl G) (hW : ∀ w ∈ Wd, w ∈ lw_tbl) (he : jm_okb cl tx tb Wd own nm cc nL (pc, .lcmp, np, x, y, z, w, v, bs) = true) (hst : jm_stp G (pc, .lcmp, np, x, y, z, w, v, bs) L st h = some q)
    (hI : jr_I D cl A b sa s h H locs ws tys) (hL : jr_L b sa ws L ls nL) (hS : jr_S b sa ws st S) (hroom : cells + q.2.2.2.2.1 ≤ R.cells + h.2.1 ∧ slots + q.2.2.2.2.2 ≤ R.slots + h.2.2) (k : jr_go p l e R s m args below meth c D cl A nL b sa ws tys h cells slots Q q) : W p l e R s m args below meth c H locs cells slots Q (F0 m pc ls S) := by
  obtain ⟨hx, hb, hml, hts, hown, hnm, hRf, hRl⟩ := hE
  simp only [jm_okb, Bool.and_eq_true, decide_eq_true_eq] at he
  obtain ⟨hd0, hnp, hmk, ho⟩ := he
  simp only [jm_il] at hnp
  simp only [jm_stp] at hst
  have hd : decode cc pc = .ok (.lcmp, 1) := by rw [show np - pc = 1 by omega] at hd0; exact hd0
  obtain ⟨u, h1, rfl⟩ := Option.map_eq_some_iff.mp hst
  obtain ⟨a0, b0, r0, rfl, rfl⟩ := jm_l2_inv h1
  obtain ⟨R0, rfl, hS0⟩ := jr_S_l hS
  obtain ⟨R1, rfl, hS1⟩ := jr_S_l hS0
  subst hnp
  exact W.lcmp hx hb hd (k.k0 hI rfl hL ⟨rfl, hS1⟩)
set_option maxHeartbeats 4000000 in
theorem jr_idiv {np x y z w : Nat} {v : Value} {bs : List Bool} {q : jm_S} (hE : jr_E p c cc nL s args own nm m meth R) (hK : jr_K tx G.2.1 b G.2.2.1 G.2.2.2 sa A s) (hC : jr_cls cl G) (hW : ∀ w ∈ Wd, w ∈ lw_tbl) (he : jm_okb cl tx tb Wd own nm cc nL (pc, .idiv, np, x, y, z, w, v, bs) = true) (hst : jm_stp G (pc, .idiv, np, x, y, z, w, v, bs) L st h = some q)
    (hI : jr_I D cl A b sa s h H locs ws tys) (hL : jr_L b sa ws L ls nL) (hS : jr_S b sa ws st S) (hroom : cells + q.2.2.2.2.1 ≤ R.cells + h.2.1 ∧ slots + q.2.2.2.2.2 ≤ R.slots + h.2.2) (k : jr_go p l e R s m args below meth c D cl A nL b sa ws tys h cells slots Q q) : W p l e R s m args below meth c H locs cells slots Q (F0 m pc ls S) := by
  obtain ⟨hx, hb, hml, hts, hown, hnm, hRf, hRl⟩ := hE
  simp only [jm_okb, Bool.and_eq_true, decide_eq_true_eq] at he
  obtain ⟨hd0, hnp, hmk, ho⟩ := he
  simp only [jm_il] at hnp
  simp only [jm_stp] at hst
  have hd : decode cc pc = .ok (.idiv, 1) := by rw [show np - pc = 1 by omega] at hd0; exact hd0
  split at hst
  case h_2 => cases hst
  case h_1 b0 a0 r0 =>
    split at hst
    case isTrue => cases hst
    case isFalse hne =>
    cases hst
    obtain ⟨R0, rfl, hS0⟩ := jr_S_i hS
    obtain ⟨R1, rfl, hS1⟩ := jr_S_i hS0
    subst hnp
    exact lv_idiv hx hb hd hne (k.k0 hI rfl hL ⟨rfl, hS1⟩)
set_option maxHeartbeats 4000000 in
theorem jr_irem {np x y z w : Nat} {v : Value} {bs : List Bool} {q : jm_S} (hE : jr_E p c cc nL s args own nm m meth R) (hK : jr_K tx G.2.1 b G.2.2.1 G.2.2.2 sa A s) (hC : jr_cls cl G) (hW : ∀ w ∈ Wd, w ∈ lw_tbl) (he : jm_okb cl tx tb Wd own nm cc nL (pc, .irem, np, x, y, z, w, v, bs) = true) (hst : jm_stp G (pc, .irem, np, x, y, z, w, v, bs) L st h = some q)
    (hI : jr_I D cl A b sa s h H locs ws tys) (hL : jr_L b sa ws L ls nL) (hS : jr_S b sa ws st S) (hroom : cells + q.2.2.2.2.1 ≤ R.cells + h.2.1 ∧ slots + q.2.2.2.2.2 ≤ R.slots + h.2.2) (k : jr_go p l e R s m args below meth c D cl A nL b sa ws tys h cells slots Q q) : W p l e R s m args below meth c H locs cells slots Q (F0 m pc ls S) := by
  obtain ⟨hx, hb, hml, hts, hown, hnm, hRf, hRl⟩ := hE
  simp only [jm_okb, Bool.and_eq_true, decide_eq_true_eq] at he
  obtain ⟨hd0, hnp, hmk, ho⟩ := he
  simp only [jm_il] at hnp
  simp only [jm_stp] at hst
  have hd : decode cc pc = .ok (.irem, 1) := by rw [show np - pc = 1 by omega] at hd0; exact hd0
  split at hst
  case h_2 => cases hst
  case h_1 b0 a0 r0 =>
    split at hst
    case isTrue => cases hst
    case isFalse hne =>
    cases hst
    obtain ⟨R0, rfl, hS0⟩ := jr_S_i hS
    obtain ⟨R1, rfl, hS1⟩ := jr_S_i hS0
    subst hnp
    exact lv_irem hx hb hd hne (k.k0 hI rfl hL ⟨rfl, hS1⟩)
set_option maxHeartbeats 4000000 in
theorem jr_ldiv {np x y z w : Nat} {v : Value} {bs : List Bool} {q : jm_S} (hE : jr_E p c cc nL s args own nm m meth R) (hK : jr_K tx G.2.1 b G.2.2.1 G.2.2.2 sa A s) (hC : jr_cls cl G) (hW : ∀ w ∈ Wd, w ∈ lw_tbl) (he : jm_okb cl tx tb Wd own nm cc nL (pc, .ldiv, np, x, y, z, w, v, bs) = true) (hst : jm_stp G (pc, .ldiv, np, x, y, z, w, v, bs) L st h = some q)
    (hI : jr_I D cl A b sa s h H locs ws tys) (hL : jr_L b sa ws L ls nL) (hS : jr_S b sa ws st S) (hroom : cells + q.2.2.2.2.1 ≤ R.cells + h.2.1 ∧ slots + q.2.2.2.2.2 ≤ R.slots + h.2.2) (k : jr_go p l e R s m args below meth c D cl A nL b sa ws tys h cells slots Q q) : W p l e R s m args below meth c H locs cells slots Q (F0 m pc ls S) := by
  obtain ⟨hx, hb, hml, hts, hown, hnm, hRf, hRl⟩ := hE
  simp only [jm_okb, Bool.and_eq_true, decide_eq_true_eq] at he
  obtain ⟨hd0, hnp, hmk, ho⟩ := he
  simp only [jm_il] at hnp
  simp only [jm_stp] at hst
  have hd : decode cc pc = .ok (.ldiv, 1) := by rw [show np - pc = 1 by omega] at hd0; exact hd0
  split at hst
  case h_2 => cases hst
  case h_1 b0 a0 r0 =>
    split at hst
    case isTrue => cases hst
    case isFalse hne =>
    cases hst
    obtain ⟨R0, rfl, hS0⟩ := jr_S_l hS
    obtain ⟨R1, rfl, hS1⟩ := jr_S_l hS0
    subst hnp
    exact lv_ldiv hx hb hd hne (k.k0 hI rfl hL ⟨rfl, hS1⟩)
set_option maxHeartbeats 4000000 in
theorem jr_lrem {np x y z w : Nat} {v : Value} {bs : List Bool} {q : jm_S} (hE : jr_E p c cc nL s args own nm m meth R) (hK : jr_K tx G.2.1 b G.2.2.1 G.2.2.2 sa A s) (hC : jr_cls cl G) (hW : ∀ w ∈ Wd, w ∈ lw_tbl) (he : jm_okb cl tx tb Wd own nm cc nL (pc, .lrem, np, x, y, z, w, v, bs) = true) (hst : jm_stp G (pc, .lrem, np, x, y, z, w, v, bs) L st h = some q)
    (hI : jr_I D cl A b sa s h H locs ws tys) (hL : jr_L b sa ws L ls nL) (hS : jr_S b sa ws st S) (hroom : cells + q.2.2.2.2.1 ≤ R.cells + h.2.1 ∧ slots + q.2.2.2.2.2 ≤ R.slots + h.2.2) (k : jr_go p l e R s m args below meth c D cl A nL b sa ws tys h cells slots Q q) : W p l e R s m args below meth c H locs cells slots Q (F0 m pc ls S) := by
  obtain ⟨hx, hb, hml, hts, hown, hnm, hRf, hRl⟩ := hE
  simp only [jm_okb, Bool.and_eq_true, decide_eq_true_eq] at he
  obtain ⟨hd0, hnp, hmk, ho⟩ := he
  simp only [jm_il] at hnp
  simp only [jm_stp] at hst
  have hd : decode cc pc = .ok (.lrem, 1) := by rw [show np - pc = 1 by omega] at hd0; exact hd0
  split at hst
  case h_2 => cases hst
  case h_1 b0 a0 r0 =>
    split at hst
    case isTrue => cases hst
    case isFalse hne =>
    cases hst
    obtain ⟨R0, rfl, hS0⟩ := jr_S_l hS
    obtain ⟨R1, rfl, hS1⟩ := jr_S_l hS0
    subst hnp
    exact lv_lrem hx hb hd hne (k.k0 hI rfl hL ⟨rfl, hS1⟩)
set_option maxHeartbeats 4000000 in
theorem jr_i2l {np x y z w : Nat} {v : Value} {bs : List Bool} {q : jm_S} (hE : jr_E p c cc nL s args own nm m meth R) (hK : jr_K tx G.2.1 b G.2.2.1 G.2.2.2 sa A s) (hC : jr_cls cl G) (hW : ∀ w ∈ Wd, w ∈ lw_tbl) (he : jm_okb cl tx tb Wd own nm cc nL (pc, .i2l, np, x, y, z, w, v, bs) = true) (hst : jm_stp G (pc, .i2l, np, x, y, z, w, v, bs) L st h = some q)
    (hI : jr_I D cl A b sa s h H locs ws tys) (hL : jr_L b sa ws L ls nL) (hS : jr_S b sa ws st S) (hroom : cells + q.2.2.2.2.1 ≤ R.cells + h.2.1 ∧ slots + q.2.2.2.2.2 ≤ R.slots + h.2.2) (k : jr_go p l e R s m args below meth c D cl A nL b sa ws tys h cells slots Q q) : W p l e R s m args below meth c H locs cells slots Q (F0 m pc ls S) := by
  obtain ⟨hx, hb, hml, hts, hown, hnm, hRf, hRl⟩ := hE
  simp only [jm_okb, Bool.and_eq_true, decide_eq_true_eq] at he
  obtain ⟨hd0, hnp, hmk, ho⟩ := he
  simp only [jm_il] at hnp
  simp only [jm_stp] at hst
  have hd : decode cc pc = .ok (.i2l, 1) := by rw [show np - pc = 1 by omega] at hd0; exact hd0
  obtain ⟨u, h1, rfl⟩ := Option.map_eq_some_iff.mp hst
  obtain ⟨a0, r0, rfl, rfl⟩ := jm_i1_inv h1
  obtain ⟨R0, rfl, hS0⟩ := jr_S_i hS
  subst hnp
  exact lv_i2l hx hb hd rfl (k.k0 hI rfl hL ⟨rfl, hS0⟩)
set_option maxHeartbeats 4000000 in
theorem jr_i2b {np x y z w : Nat} {v : Value} {bs : List Bool} {q : jm_S} (hE : jr_E p c cc nL s args own nm m meth R) (hK : jr_K tx G.2.1 b G.2.2.1 G.2.2.2 sa A s) (hC : jr_cls cl G) (hW : ∀ w ∈ Wd, w ∈ lw_tbl) (he : jm_okb cl tx tb Wd own nm cc nL (pc, .i2b, np, x, y, z, w, v, bs) = true) (hst : jm_stp G (pc, .i2b, np, x, y, z, w, v, bs) L st h = some q)
    (hI : jr_I D cl A b sa s h H locs ws tys) (hL : jr_L b sa ws L ls nL) (hS : jr_S b sa ws st S) (hroom : cells + q.2.2.2.2.1 ≤ R.cells + h.2.1 ∧ slots + q.2.2.2.2.2 ≤ R.slots + h.2.2) (k : jr_go p l e R s m args below meth c D cl A nL b sa ws tys h cells slots Q q) : W p l e R s m args below meth c H locs cells slots Q (F0 m pc ls S) := by
  obtain ⟨hx, hb, hml, hts, hown, hnm, hRf, hRl⟩ := hE
  simp only [jm_okb, Bool.and_eq_true, decide_eq_true_eq] at he
  obtain ⟨hd0, hnp, hmk, ho⟩ := he
  simp only [jm_il] at hnp
  simp only [jm_stp] at hst
  have hd : decode cc pc = .ok (.i2b, 1) := by rw [show np - pc = 1 by omega] at hd0; exact hd0
  obtain ⟨u, h1, rfl⟩ := Option.map_eq_some_iff.mp hst
  obtain ⟨a0, r0, rfl, rfl⟩ := jm_i1_inv h1
  obtain ⟨R0, rfl, hS0⟩ := jr_S_i hS
  subst hnp
  exact lv_i2b hx hb hd rfl (k.k0 hI rfl hL ⟨rfl, hS0⟩)
set_option maxHeartbeats 4000000 in
theorem jr_i2c {np x y z w : Nat} {v : Value} {bs : List Bool} {q : jm_S} (hE : jr_E p c cc nL s args own nm m meth R) (hK : jr_K tx G.2.1 b G.2.2.1 G.2.2.2 sa A s) (hC : jr_cls cl G) (hW : ∀ w ∈ Wd, w ∈ lw_tbl) (he : jm_okb cl tx tb Wd own nm cc nL (pc, .i2c, np, x, y, z, w, v, bs) = true) (hst : jm_stp G (pc, .i2c, np, x, y, z, w, v, bs) L st h = some q)
    (hI : jr_I D cl A b sa s h H locs ws tys) (hL : jr_L b sa ws L ls nL) (hS : jr_S b sa ws st S) (hroom : cells + q.2.2.2.2.1 ≤ R.cells + h.2.1 ∧ slots + q.2.2.2.2.2 ≤ R.slots + h.2.2) (k : jr_go p l e R s m args below meth c D cl A nL b sa ws tys h cells slots Q q) : W p l e R s m args below meth c H locs cells slots Q (F0 m pc ls S) := by
  obtain ⟨hx, hb, hml, hts, hown, hnm, hRf, hRl⟩ := hE
  simp only [jm_okb, Bool.and_eq_true, decide_eq_true_eq] at he
  obtain ⟨hd0, hnp, hmk, ho⟩ := he
  simp only [jm_il] at hnp
  simp only [jm_stp] at hst
  have hd : decode cc pc = .ok (.i2c, 1) := by rw [show np - pc = 1 by omega] at hd0; exact hd0
  obtain ⟨u, h1, rfl⟩ := Option.map_eq_some_iff.mp hst
  obtain ⟨a0, r0, rfl, rfl⟩ := jm_i1_inv h1
  obtain ⟨R0, rfl, hS0⟩ := jr_S_i hS
  subst hnp
  exact lv_i2c hx hb hd rfl (k.k0 hI rfl hL ⟨rfl, hS0⟩)
set_option maxHeartbeats 4000000 in
theorem jr_dup {np x y z w : Nat} {v : Value} {bs : List Bool} {q : jm_S} (hE : jr_E p c cc nL s args own nm m meth R) (hK : jr_K tx G.2.1 b G.2.2.1 G.2.2.2 sa A s) (hC : jr_cls cl G) (hW : ∀ w ∈ Wd, w ∈ lw_tbl) (he : jm_okb cl tx tb Wd own nm cc nL (pc, .dup, np, x, y, z, w, v, bs) = true) (hst : jm_stp G (pc, .dup, np, x, y, z, w, v, bs) L st h = some q)
    (hI : jr_I D cl A b sa s h H locs ws tys) (hL : jr_L b sa ws L ls nL) (hS : jr_S b sa ws st S) (hroom : cells + q.2.2.2.2.1 ≤ R.cells + h.2.1 ∧ slots + q.2.2.2.2.2 ≤ R.slots + h.2.2) (k : jr_go p l e R s m args below meth c D cl A nL b sa ws tys h cells slots Q q) : W p l e R s m args below meth c H locs cells slots Q (F0 m pc ls S) := by
  obtain ⟨hx, hb, hml, hts, hown, hnm, hRf, hRl⟩ := hE
  simp only [jm_okb, Bool.and_eq_true, decide_eq_true_eq] at he
  obtain ⟨hd0, hnp, hmk, ho⟩ := he
  simp only [jm_il] at hnp
  simp only [jm_stp] at hst
  have hd : decode cc pc = .ok (.dup, 1) := by rw [show np - pc = 1 by omega] at hd0; exact hd0
  split at hst
  case h_2 => cases hst
  case h_1 v0 r0 =>
    split at hst
    case isFalse => cases hst
    case isTrue hc1 =>
    cases hst
    obtain ⟨V, R0, rfl, hV, hS0⟩ := jr_S_c hS
    subst hnp
    exact lv_dup hx hb hd (jr_cat1 hV hc1) (k.k0 hI rfl hL ⟨hV, hV, hS0⟩)
set_option maxHeartbeats 4000000 in
theorem jr_pop {np x y z w : Nat} {v : Value} {bs : List Bool} {q : jm_S} (hE : jr_E p c cc nL s args own nm m meth R) (hK : jr_K tx G.2.1 b G.2.2.1 G.2.2.2 sa A s) (hC : jr_cls cl G) (hW : ∀ w ∈ Wd, w ∈ lw_tbl) (he : jm_okb cl tx tb Wd own nm cc nL (pc, .pop, np, x, y, z, w, v, bs) = true) (hst : jm_stp G (pc, .pop, np, x, y, z, w, v, bs) L st h = some q)
    (hI : jr_I D cl A b sa s h H locs ws tys) (hL : jr_L b sa ws L ls nL) (hS : jr_S b sa ws st S) (hroom : cells + q.2.2.2.2.1 ≤ R.cells + h.2.1 ∧ slots + q.2.2.2.2.2 ≤ R.slots + h.2.2) (k : jr_go p l e R s m args below meth c D cl A nL b sa ws tys h cells slots Q q) : W p l e R s m args below meth c H locs cells slots Q (F0 m pc ls S) := by
  obtain ⟨hx, hb, hml, hts, hown, hnm, hRf, hRl⟩ := hE
  simp only [jm_okb, Bool.and_eq_true, decide_eq_true_eq] at he
  obtain ⟨hd0, hnp, hmk, ho⟩ := he
  simp only [jm_il] at hnp
  simp only [jm_stp] at hst
  have hd : decode cc pc = .ok (.pop, 1) := by rw [show np - pc = 1 by omega] at hd0; exact hd0
  split at hst
  case h_2 => cases hst
  case h_1 v0 r0 =>
    split at hst
    case isFalse => cases hst
    case isTrue hc1 =>
    cases hst
    obtain ⟨V, R0, rfl, hV, hS0⟩ := jr_S_c hS
    subst hnp
    exact lv_pop hx hb hd (jr_cat1 hV hc1) (k.k0 hI rfl hL hS0)
set_option maxHeartbeats 4000000 in
theorem jr_dup2 {np x y z w : Nat} {v : Value} {bs : List Bool} {q : jm_S} (hE : jr_E p c cc nL s args own nm m meth R) (hK : jr_K tx G.2.1 b G.2.2.1 G.2.2.2 sa A s) (hC : jr_cls cl G) (hW : ∀ w ∈ Wd, w ∈ lw_tbl) (he : jm_okb cl tx tb Wd own nm cc nL (pc, .dup2, np, x, y, z, w, v, bs) = true) (hst : jm_stp G (pc, .dup2, np, x, y, z, w, v, bs) L st h = some q)
    (hI : jr_I D cl A b sa s h H locs ws tys) (hL : jr_L b sa ws L ls nL) (hS : jr_S b sa ws st S) (hroom : cells + q.2.2.2.2.1 ≤ R.cells + h.2.1 ∧ slots + q.2.2.2.2.2 ≤ R.slots + h.2.2) (k : jr_go p l e R s m args below meth c D cl A nL b sa ws tys h cells slots Q q) : W p l e R s m args below meth c H locs cells slots Q (F0 m pc ls S) := by
  obtain ⟨hx, hb, hml, hts, hown, hnm, hRf, hRl⟩ := hE
  simp only [jm_okb, Bool.and_eq_true, decide_eq_true_eq] at he
  obtain ⟨hd0, hnp, hmk, ho⟩ := he
  simp only [jm_il] at hnp
  simp only [jm_stp] at hst
  have hd : decode cc pc = .ok (.dup2, 1) := by rw [show np - pc = 1 by omega] at hd0; exact hd0
  split at hst
  case h_1 v0 r0 =>
    cases hst
    obtain ⟨R0, rfl, hS0⟩ := jr_S_l hS
    subst hnp
    exact lv_dup2_2 hx hb hd rfl (k.k0 hI rfl hL ⟨rfl, rfl, hS0⟩)
  case h_2 v0 w0 r0 _ =>
    split at hst
    case isFalse => cases hst
    case isTrue hc1 =>
    cases hst
    obtain ⟨V, R0, rfl, hV, hS0⟩ := jr_S_c hS
    obtain ⟨V1, R1, rfl, hV1, hS1⟩ := jr_S_c hS0
    subst hnp
    exact lv_dup2_11 hx hb hd (jr_cat1 hV hc1.1) (jr_cat1 hV1 hc1.2) (k.k0 hI rfl hL ⟨hV, hV1, hV, hV1, hS1⟩)
  case h_3 => cases hst
set_option maxHeartbeats 4000000 in
theorem jr_goto {off : Int} {np x y z w : Nat} {v : Value} {bs : List Bool} {q : jm_S} (hE : jr_E p c cc nL s args own nm m meth R) (hK : jr_K tx G.2.1 b G.2.2.1 G.2.2.2 sa A s) (hC : jr_cls cl G) (hW : ∀ w ∈ Wd, w ∈ lw_tbl) (he : jm_okb cl tx tb Wd own nm cc nL (pc, .goto off, np, x, y, z, w, v, bs) = true) (hst : jm_stp G (pc, .goto off, np, x, y, z, w, v, bs) L st h = some q)
    (hI : jr_I D cl A b sa s h H locs ws tys) (hL : jr_L b sa ws L ls nL) (hS : jr_S b sa ws st S) (hroom : cells + q.2.2.2.2.1 ≤ R.cells + h.2.1 ∧ slots + q.2.2.2.2.2 ≤ R.slots + h.2.2) (k : jr_go p l e R s m args below meth c D cl A nL b sa ws tys h cells slots Q q) : W p l e R s m args below meth c H locs cells slots Q (F0 m pc ls S) := by
  obtain ⟨hx, hb, hml, hts, hown, hnm, hRf, hRl⟩ := hE
  simp only [jm_okb, Bool.and_eq_true, decide_eq_true_eq] at he
  obtain ⟨hd0, hnp, hmk, ho⟩ := he
  simp only [jm_il] at hnp
  simp only [jm_stp] at hst
  have hd : decode cc pc = .ok (.goto off, 3) := by rw [show np - pc = 3 by omega] at hd0; exact hd0
  cases hst
  exact lv_goto hx hb hd ho (k.k0 hI rfl hL hS)
set_option maxHeartbeats 4000000 in
theorem jr_if_eq {off : Int} {np x y z w : Nat} {v : Value} {bs : List Bool} {q : jm_S} (hE : jr_E p c cc nL s args own nm m meth R) (hK : jr_K tx G.2.1 b G.2.2.1 G.2.2.2 sa A s) (hC : jr_cls cl G) (hW : ∀ w ∈ Wd, w ∈ lw_tbl) (he : jm_okb cl tx tb Wd own nm cc nL (pc, .ifCond .eq off, np, x, y, z, w, v, bs) = true) (hst : jm_stp G (pc, .ifCond .eq off, np, x, y, z, w, v, bs) L st h = some q)
    (hI : jr_I D cl A b sa s h H locs ws tys) (hL : jr_L b sa ws L ls nL) (hS : jr_S b sa ws st S) (hroom : cells + q.2.2.2.2.1 ≤ R.cells + h.2.1 ∧ slots + q.2.2.2.2.2 ≤ R.slots + h.2.2) (k : jr_go p l e R s m args below meth c D cl A nL b sa ws tys h cells slots Q q) : W p l e R s m args below meth c H locs cells slots Q (F0 m pc ls S) := by
  obtain ⟨hx, hb, hml, hts, hown, hnm, hRf, hRl⟩ := hE
  simp only [jm_okb, Bool.and_eq_true, decide_eq_true_eq] at he
  obtain ⟨hd0, hnp, hmk, ho⟩ := he
  simp only [jm_il] at hnp
  simp only [jm_stp] at hst
  have hd : decode cc pc = .ok (.ifCond .eq off, 3) := by rw [show np - pc = 3 by omega] at hd0; exact hd0
  unfold jm_if1 at hst
  split at hst
  case h_2 => cases hst
  case h_1 a0 r0 =>
    obtain ⟨R0, rfl, hS0⟩ := jr_S_i hS
    subst hnp
    refine lv_if_eq hx hb hd ho (fun g => ?_) (fun g => ?_)
    · rw [if_pos g] at hst
      cases hst
      exact k.k0 hI rfl hL hS0
    · rw [if_neg g] at hst
      cases hst
      exact k.k0 hI rfl hL hS0
set_option maxHeartbeats 4000000 in
theorem jr_icmp_eq {off : Int} {np x y z w : Nat} {v : Value} {bs : List Bool} {q : jm_S} (hE : jr_E p c cc nL s args own nm m meth R) (hK : jr_K tx G.2.1 b G.2.2.1 G.2.2.2 sa A s) (hC : jr_cls cl G) (hW : ∀ w ∈ Wd, w ∈ lw_tbl) (he : jm_okb cl tx tb Wd own nm cc nL (pc, .if_icmp .eq off, np, x, y, z, w, v, bs) = true) (hst : jm_stp G (pc, .if_icmp .eq off, np, x, y, z, w, v, bs) L st h = some q)
    (hI : jr_I D cl A b sa s h H locs ws tys) (hL : jr_L b sa ws L ls nL) (hS : jr_S b sa ws st S) (hroom : cells + q.2.2.2.2.1 ≤ R.cells + h.2.1 ∧ slots + q.2.2.2.2.2 ≤ R.slots + h.2.2) (k : jr_go p l e R s m args below meth c D cl A nL b sa ws tys h cells slots Q q) : W p l e R s m args below meth c H locs cells slots Q (F0 m pc ls S) := by
  obtain ⟨hx, hb, hml, hts, hown, hnm, hRf, hRl⟩ := hE
  simp only [jm_okb, Bool.and_eq_true, decide_eq_true_eq] at he
  obtain ⟨hd0, hnp, hmk, ho⟩ := he
  simp only [jm_il] at hnp
  simp only [jm_stp] at hst
  have hd : decode cc pc = .ok (.if_icmp .eq off, 3) := by rw [show np - pc = 3 by omega] at hd0; exact hd0
  unfold jm_if2 at hst
  split at hst
  case h_2 => cases hst
  case h_1 b0 a0 r0 =>
    obtain ⟨R0, rfl, hS0⟩ := jr_S_i hS
    obtain ⟨R1, rfl, hS1⟩ := jr_S_i hS0
    subst hnp
    refine lv_icmp_eq hx hb hd ho (fun g => ?_) (fun g => ?_)
    · rw [if_pos g] at hst
      cases hst
      exact k.k0 hI rfl hL hS1
    · rw [if_neg g] at hst
      cases hst
      exact k.k0 hI rfl hL hS1
set_option maxHeartbeats 4000000 in
theorem jr_if_ne {off : Int} {np x y z w : Nat} {v : Value} {bs : List Bool} {q : jm_S} (hE : jr_E p c cc nL s args own nm m meth R) (hK : jr_K tx G.2.1 b G.2.2.1 G.2.2.2 sa A s) (hC : jr_cls cl G) (hW : ∀ w ∈ Wd, w ∈ lw_tbl) (he : jm_okb cl tx tb Wd own nm cc nL (pc, .ifCond .ne off, np, x, y, z, w, v, bs) = true) (hst : jm_stp G (pc, .ifCond .ne off, np, x, y, z, w, v, bs) L st h = some q)
    (hI : jr_I D cl A b sa s h H locs ws tys) (hL : jr_L b sa ws L ls nL) (hS : jr_S b sa ws st S) (hroom : cells + q.2.2.2.2.1 ≤ R.cells + h.2.1 ∧ slots + q.2.2.2.2.2 ≤ R.slots + h.2.2) (k : jr_go p l e R s m args below meth c D cl A nL b sa ws tys h cells slots Q q) : W p l e R s m args below meth c H locs cells slots Q (F0 m pc ls S) := by
  obtain ⟨hx, hb, hml, hts, hown, hnm, hRf, hRl⟩ := hE
  simp only [jm_okb, Bool.and_eq_true, decide_eq_true_eq] at he
  obtain ⟨hd0, hnp, hmk, ho⟩ := he
  simp only [jm_il] at hnp
  simp only [jm_stp] at hst
  have hd : decode cc pc = .ok (.ifCond .ne off, 3) := by rw [show np - pc = 3 by omega] at hd0; exact hd0
  unfold jm_if1 at hst
  split at hst
  case h_2 => cases hst
  case h_1 a0 r0 =>
    obtain ⟨R0, rfl, hS0⟩ := jr_S_i hS
    subst hnp
    refine lv_if_ne hx hb hd ho (fun g => ?_) (fun g => ?_)
    · rw [if_pos g] at hst
      cases hst
      exact k.k0 hI rfl hL hS0
    · rw [if_neg (fun q => q g)] at hst
      cases hst
      exact k.k0 hI rfl hL hS0
set_option maxHeartbeats 4000000 in
theorem jr_icmp_ne {off : Int} {np x y z w : Nat} {v : Value} {bs : List Bool} {q : jm_S} (hE : jr_E p c cc nL s args own nm m meth R) (hK : jr_K tx G.2.1 b G.2.2.1 G.2.2.2 sa A s) (hC : jr_cls cl G) (hW : ∀ w ∈ Wd, w ∈ lw_tbl) (he : jm_okb cl tx tb Wd own nm cc nL (pc, .if_icmp .ne off, np, x, y, z, w, v, bs) = true) (hst : jm_stp G (pc, .if_icmp .ne off, np, x, y, z, w, v, bs) L st h = some q)
    (hI : jr_I D cl A b sa s h H locs ws tys) (hL : jr_L b sa ws L ls nL) (hS : jr_S b sa ws st S) (hroom : cells + q.2.2.2.2.1 ≤ R.cells + h.2.1 ∧ slots + q.2.2.2.2.2 ≤ R.slots + h.2.2) (k : jr_go p l e R s m args below meth c D cl A nL b sa ws tys h cells slots Q q) : W p l e R s m args below meth c H locs cells slots Q (F0 m pc ls S) := by
  obtain ⟨hx, hb, hml, hts, hown, hnm, hRf, hRl⟩ := hE
  simp only [jm_okb, Bool.and_eq_true, decide_eq_true_eq] at he
  obtain ⟨hd0, hnp, hmk, ho⟩ := he
  simp only [jm_il] at hnp
  simp only [jm_stp] at hst
  have hd : decode cc pc = .ok (.if_icmp .ne off, 3) := by rw [show np - pc = 3 by omega] at hd0; exact hd0
  unfold jm_if2 at hst
  split at hst
  case h_2 => cases hst
  case h_1 b0 a0 r0 =>
    obtain ⟨R0, rfl, hS0⟩ := jr_S_i hS
    obtain ⟨R1, rfl, hS1⟩ := jr_S_i hS0
    subst hnp
    refine lv_icmp_ne hx hb hd ho (fun g => ?_) (fun g => ?_)
    · rw [if_pos g] at hst
      cases hst
      exact k.k0 hI rfl hL hS1
    · rw [if_neg (fun q => q g)] at hst
      cases hst
      exact k.k0 hI rfl hL hS1
set_option maxHeartbeats 4000000 in
theorem jr_if_lt {off : Int} {np x y z w : Nat} {v : Value} {bs : List Bool} {q : jm_S} (hE : jr_E p c cc nL s args own nm m meth R) (hK : jr_K tx G.2.1 b G.2.2.1 G.2.2.2 sa A s) (hC : jr_cls cl G) (hW : ∀ w ∈ Wd, w ∈ lw_tbl) (he : jm_okb cl tx tb Wd own nm cc nL (pc, .ifCond .lt off, np, x, y, z, w, v, bs) = true) (hst : jm_stp G (pc, .ifCond .lt off, np, x, y, z, w, v, bs) L st h = some q)
    (hI : jr_I D cl A b sa s h H locs ws tys) (hL : jr_L b sa ws L ls nL) (hS : jr_S b sa ws st S) (hroom : cells + q.2.2.2.2.1 ≤ R.cells + h.2.1 ∧ slots + q.2.2.2.2.2 ≤ R.slots + h.2.2) (k : jr_go p l e R s m args below meth c D cl A nL b sa ws tys h cells slots Q q) : W p l e R s m args below meth c H locs cells slots Q (F0 m pc ls S) := by
  obtain ⟨hx, hb, hml, hts, hown, hnm, hRf, hRl⟩ := hE
  simp only [jm_okb, Bool.and_eq_true, decide_eq_true_eq] at he
  obtain ⟨hd0, hnp, hmk, ho⟩ := he
  simp only [jm_il] at hnp
  simp only [jm_stp] at hst
  have hd : decode cc pc = .ok (.ifCond .lt off, 3) := by rw [show np - pc = 3 by omega] at hd0; exact hd0
  unfold jm_if1 at hst
  split at hst
  case h_2 => cases hst
  case h_1 a0 r0 =>
    obtain ⟨R0, rfl, hS0⟩ := jr_S_i hS
    subst hnp
    refine lv_if_lt hx hb hd ho (fun g => ?_) (fun g => ?_)
    · rw [if_pos g] at hst
      cases hst
      exact k.k0 hI rfl hL hS0
    · rw [if_neg g] at hst
      cases hst
      exact k.k0 hI rfl hL hS0
set_option maxHeartbeats 4000000 in
theorem jr_icmp_lt {off : Int} {np x y z w : Nat} {v : Value} {bs : List Bool} {q : jm_S} (hE : jr_E p c cc nL s args own nm m meth R) (hK : jr_K tx G.2.1 b G.2.2.1 G.2.2.2 sa A s) (hC : jr_cls cl G) (hW : ∀ w ∈ Wd, w ∈ lw_tbl) (he : jm_okb cl tx tb Wd own nm cc nL (pc, .if_icmp .lt off, np, x, y, z, w, v, bs) = true) (hst : jm_stp G (pc, .if_icmp .lt off, np, x, y, z, w, v, bs) L st h = some q)
    (hI : jr_I D cl A b sa s h H locs ws tys) (hL : jr_L b sa ws L ls nL) (hS : jr_S b sa ws st S) (hroom : cells + q.2.2.2.2.1 ≤ R.cells + h.2.1 ∧ slots + q.2.2.2.2.2 ≤ R.slots + h.2.2) (k : jr_go p l e R s m args below meth c D cl A nL b sa ws tys h cells slots Q q) : W p l e R s m args below meth c H locs cells slots Q (F0 m pc ls S) := by
  obtain ⟨hx, hb, hml, hts, hown, hnm, hRf, hRl⟩ := hE
  simp only [jm_okb, Bool.and_eq_true, decide_eq_true_eq] at he
  obtain ⟨hd0, hnp, hmk, ho⟩ := he
  simp only [jm_il] at hnp
  simp only [jm_stp] at hst
  have hd : decode cc pc = .ok (.if_icmp .lt off, 3) := by rw [show np - pc = 3 by omega] at hd0; exact hd0
  unfold jm_if2 at hst
  split at hst
  case h_2 => cases hst
  case h_1 b0 a0 r0 =>
    obtain ⟨R0, rfl, hS0⟩ := jr_S_i hS
    obtain ⟨R1, rfl, hS1⟩ := jr_S_i hS0
    subst hnp
    refine lv_icmp_lt hx hb hd ho (fun g => ?_) (fun g => ?_)
    · rw [if_pos g] at hst
      cases hst
      exact k.k0 hI rfl hL hS1
    · rw [if_neg g] at hst
      cases hst
      exact k.k0 hI rfl hL hS1
set_option maxHeartbeats 4000000 in
theorem jr_if_ge {off : Int} {np x y z w : Nat} {v : Value} {bs : List Bool} {q : jm_S} (hE : jr_E p c cc nL s args own nm m meth R) (hK : jr_K tx G.2.1 b G.2.2.1 G.2.2.2 sa A s) (hC : jr_cls cl G) (hW : ∀ w ∈ Wd, w ∈ lw_tbl) (he : jm_okb cl tx tb Wd own nm cc nL (pc, .ifCond .ge off, np, x, y, z, w, v, bs) = true) (hst : jm_stp G (pc, .ifCond .ge off, np, x, y, z, w, v, bs) L st h = some q)
    (hI : jr_I D cl A b sa s h H locs ws tys) (hL : jr_L b sa ws L ls nL) (hS : jr_S b sa ws st S) (hroom : cells + q.2.2.2.2.1 ≤ R.cells + h.2.1 ∧ slots + q.2.2.2.2.2 ≤ R.slots + h.2.2) (k : jr_go p l e R s m args below meth c D cl A nL b sa ws tys h cells slots Q q) : W p l e R s m args below meth c H locs cells slots Q (F0 m pc ls S) := by
  obtain ⟨hx, hb, hml, hts, hown, hnm, hRf, hRl⟩ := hE
  simp only [jm_okb, Bool.and_eq_true, decide_eq_true_eq] at he
  obtain ⟨hd0, hnp, hmk, ho⟩ := he
  simp only [jm_il] at hnp
  simp only [jm_stp] at hst
  have hd : decode cc pc = .ok (.ifCond .ge off, 3) := by rw [show np - pc = 3 by omega] at hd0; exact hd0
  unfold jm_if1 at hst
  split at hst
  case h_2 => cases hst
  case h_1 a0 r0 =>
    obtain ⟨R0, rfl, hS0⟩ := jr_S_i hS
    subst hnp
    refine lv_if_ge hx hb hd ho (fun g => ?_) (fun g => ?_)
    · rw [if_pos g] at hst
      cases hst
      exact k.k0 hI rfl hL hS0
    · rw [if_neg g] at hst
      cases hst
      exact k.k0 hI rfl hL hS0
set_option maxHeartbeats 4000000 in
theorem jr_icmp_ge {off : Int} {np x y z w : Nat} {v : Value} {bs : List Bool} {q : jm_S} (hE : jr_E p c cc nL s args own nm m meth R) (hK : jr_K tx G.2.1 b G.2.2.1 G.2.2.2 sa A s) (hC : jr_cls cl G) (hW : ∀ w ∈ Wd, w ∈ lw_tbl) (he : jm_okb cl tx tb Wd own nm cc nL (pc, .if_icmp .ge off, np, x, y, z, w, v, bs) = true) (hst : jm_stp G (pc, .if_icmp .ge off, np, x, y, z, w, v, bs) L st h = some q)
    (hI : jr_I D cl A b sa s h H locs ws tys) (hL : jr_L b sa ws L ls nL) (hS : jr_S b sa ws st S) (hroom : cells + q.2.2.2.2.1 ≤ R.cells + h.2.1 ∧ slots + q.2.2.2.2.2 ≤ R.slots + h.2.2) (k : jr_go p l e R s m args below meth c D cl A nL b sa ws tys h cells slots Q q) : W p l e R s m args below meth c H locs cells slots Q (F0 m pc ls S) := by
  obtain ⟨hx, hb, hml, hts, hown, hnm, hRf, hRl⟩ := hE
  simp only [jm_okb, Bool.and_eq_true, decide_eq_true_eq] at he
  obtain ⟨hd0, hnp, hmk, ho⟩ := he
  simp only [jm_il] at hnp
  simp only [jm_stp] at hst
  have hd : decode cc pc = .ok (.if_icmp .ge off, 3) := by rw [show np - pc = 3 by omega] at hd0; exact hd0
  unfold jm_if2 at hst
  split at hst
  case h_2 => cases hst
  case h_1 b0 a0 r0 =>
    obtain ⟨R0, rfl, hS0⟩ := jr_S_i hS
    obtain ⟨R1, rfl, hS1⟩ := jr_S_i hS0
    subst hnp
    refine lv_icmp_ge hx hb hd ho (fun g => ?_) (fun g => ?_)
    · rw [if_pos g] at hst
      cases hst
      exact k.k0 hI rfl hL hS1
    · rw [if_neg g] at hst
      cases hst
      exact k.k0 hI rfl hL hS1
set_option maxHeartbeats 4000000 in
theorem jr_if_gt {off : Int} {np x y z w : Nat} {v : Value} {bs : List Bool} {q : jm_S} (hE : jr_E p c cc nL s args own nm m meth R) (hK : jr_K tx G.2.1 b G.2.2.1 G.2.2.2 sa A s) (hC : jr_cls cl G) (hW : ∀ w ∈ Wd, w ∈ lw_tbl) (he : jm_okb cl tx tb Wd own nm cc nL (pc, .ifCond .gt off, np, x, y, z, w, v, bs) = true) (hst : jm_stp G (pc, .ifCond .gt off, np, x, y, z, w, v, bs) L st h = some q)
    (hI : jr_I D cl A b sa s h H locs ws tys) (hL : jr_L b sa ws L ls nL) (hS : jr_S b sa ws st S) (hroom : cells + q.2.2.2.2.1 ≤ R.cells + h.2.1 ∧ slots + q.2.2.2.2.2 ≤ R.slots + h.2.2) (k : jr_go p l e R s m args below meth c D cl A nL b sa ws tys h cells slots Q q) : W p l e R s m args below meth c H locs cells slots Q (F0 m pc ls S) := by
  obtain ⟨hx, hb, hml, hts, hown, hnm, hRf, hRl⟩ := hE
  simp only [jm_okb, Bool.and_eq_true, decide_eq_true_eq] at he
  obtain ⟨hd0, hnp, hmk, ho⟩ := he
  simp only [jm_il] at hnp
  simp only [jm_stp] at hst
  have hd : decode cc pc = .ok (.ifCond .gt off, 3) := by rw [show np - pc = 3 by omega] at hd0; exact hd0
  unfold jm_if1 at hst
  split at hst
  case h_2 => cases hst
  case h_1 a0 r0 =>
    obtain ⟨R0, rfl, hS0⟩ := jr_S_i hS
    subst hnp
    refine lv_if_gt hx hb hd ho (fun g => ?_) (fun g => ?_)
    · rw [if_pos g] at hst
      cases hst
      exact k.k0 hI rfl hL hS0
    · rw [if_neg g] at hst
      cases hst
      exact k.k0 hI rfl hL hS0
set_option maxHeartbeats 4000000 in
theorem jr_icmp_gt {off : Int} {np x y z w : Nat} {v : Value} {bs : List Bool} {q : jm_S} (hE : jr_E p c cc nL s args own nm m meth R) (hK : jr_K tx G.2.1 b G.2.2.1 G.2.2.2 sa A s) (hC : jr_cls cl G) (hW : ∀ w ∈ Wd, w ∈ lw_tbl) (he : jm_okb cl tx tb Wd own nm cc nL (pc, .if_icmp .gt off, np, x, y, z, w, v, bs) = true) (hst : jm_stp G (pc, .if_icmp .gt off, np, x, y, z, w, v, bs) L st h = some q)
    (hI : jr_I D cl A b sa s h H locs ws tys) (hL : jr_L b sa ws L ls nL) (hS : jr_S b sa ws st S) (hroom : cells + q.2.2.2.2.1 ≤ R.cells + h.2.1 ∧ slots + q.2.2.2.2.2 ≤ R.slots + h.2.2) (k : jr_go p l e R s m args below meth c D cl A nL b sa ws tys h cells slots Q q) : W p l e R s m args below meth c H locs cells slots Q (F0 m pc ls S) := by
  obtain ⟨hx, hb, hml, hts, hown, hnm, hRf, hRl⟩ := hE
  simp only [jm_okb, Bool.and_eq_true, decide_eq_true_eq] at he
  obtain ⟨hd0, hnp, hmk, ho⟩ := he
  simp only [jm_il] at hnp
  simp only [jm_stp] at hst
  have hd : decode cc pc = .ok (.if_icmp .gt off, 3) := by rw [show np - pc = 3 by omega] at hd0; exact hd0
  unfold jm_if2 at hst
  split at hst
  case h_2 => cases hst
  case h_1 b0 a0 r0 =>
    obtain ⟨R0, rfl, hS0⟩ := jr_S_i hS
    obtain ⟨R1, rfl, hS1⟩ := jr_S_i hS0
    subst hnp
    refine lv_icmp_gt hx hb hd ho (fun g => ?_) (fun g => ?_)
    · rw [if_pos g] at hst
      cases hst
      exact k.k0 hI rfl hL hS1
    · rw [if_neg g] at hst
      cases hst
      exact k.k0 hI rfl hL hS1
set_option maxHeartbeats 4000000 in
theorem jr_if_le {off : Int} {np x y z w : Nat} {v : Value} {bs : List Bool} {q : jm_S} (hE : jr_E p c cc nL s args own nm m meth R) (hK : jr_K tx G.2.1 b G.2.2.1 G.2.2.2 sa A s) (hC : jr_cls cl G) (hW : ∀ w ∈ Wd, w ∈ lw_tbl) (he : jm_okb cl tx tb Wd own nm cc nL (pc, .ifCond .le off, np, x, y, z, w, v, bs) = true) (hst : jm_stp G (pc, .ifCond .le off, np, x, y, z, w, v, bs) L st h = some q)
    (hI : jr_I D cl A b sa s h H locs ws tys) (hL : jr_L b sa ws L ls nL) (hS : jr_S b sa ws st S) (hroom : cells + q.2.2.2.2.1 ≤ R.cells + h.2.1 ∧ slots + q.2.2.2.2.2 ≤ R.slots + h.2.2) (k : jr_go p l e R s m args below meth c D cl A nL b sa ws tys h cells slots Q q) : W p l e R s m args below meth c H locs cells slots Q (F0 m pc ls S) := by
  obtain ⟨hx, hb, hml, hts, hown, hnm, hRf, hRl⟩ := hE
  simp only [jm_okb, Bool.and_eq_true, decide_eq_true_eq] at he
  obtain ⟨hd0, hnp, hmk, ho⟩ := he
  simp only [jm_il] at hnp
  simp only [jm_stp] at hst
  have hd : decode cc pc = .ok (.ifCond .le off, 3) := by rw [show np - pc = 3 by omega] at hd0; exact hd0
  unfold jm_if1 at hst
  split at hst
  case h_2 => cases hst
  case h_1 a0 r0 =>
    obtain ⟨R0, rfl, hS0⟩ := jr_S_i hS
    subst hnp
    refine lv_if_le hx hb hd ho (fun g => ?_) (fun g => ?_)
    · rw [if_pos g] at hst
      cases hst
      exact k.k0 hI rfl hL hS0
    · rw [if_neg g] at hst
      cases hst
      exact k.k0 hI rfl hL hS0
set_option maxHeartbeats 4000000 in
theorem jr_icmp_le {off : Int} {np x y z w : Nat} {v : Value} {bs : List Bool} {q : jm_S} (hE : jr_E p c cc nL s args own nm m meth R) (hK : jr_K tx G.2.1 b G.2.2.1 G.2.2.2 sa A s) (hC : jr_cls cl G) (hW : ∀ w ∈ Wd, w ∈ lw_tbl) (he : jm_okb cl tx tb Wd own nm cc nL (pc, .if_icmp .le off, np, x, y, z, w, v, bs) = true) (hst : jm_stp G (pc, .if_icmp .le off, np, x, y, z, w, v, bs) L st h = some q)
    (hI : jr_I D cl A b sa s h H locs ws tys) (hL : jr_L b sa ws L ls nL) (hS : jr_S b sa ws st S) (hroom : cells + q.2.2.2.2.1 ≤ R.cells + h.2.1 ∧ slots + q.2.2.2.2.2 ≤ R.slots + h.2.2) (k : jr_go p l e R s m args below meth c D cl A nL b sa ws tys h cells slots Q q) : W p l e R s m args below meth c H locs cells slots Q (F0 m pc ls S) := by
  obtain ⟨hx, hb, hml, hts, hown, hnm, hRf, hRl⟩ := hE
  simp only [jm_okb, Bool.and_eq_true, decide_eq_true_eq] at he
  obtain ⟨hd0, hnp, hmk, ho⟩ := he
  simp only [jm_il] at hnp
  simp only [jm_stp] at hst
  have hd : decode cc pc = .ok (.if_icmp .le off, 3) := by rw [show np - pc = 3 by omega] at hd0; exact hd0
  unfold jm_if2 at hst
  split at hst
  case h_2 => cases hst
  case h_1 b0 a0 r0 =>
    obtain ⟨R0, rfl, hS0⟩ := jr_S_i hS
    obtain ⟨R1, rfl, hS1⟩ := jr_S_i hS0
    subst hnp
    refine lv_icmp_le hx hb hd ho (fun g => ?_) (fun g => ?_)
    · rw [if_pos g] at hst
      cases hst
      exact k.k0 hI rfl hL hS1
    · rw [if_neg g] at hst
      cases hst
      exact k.k0 hI rfl hL hS1
set_option maxHeartbeats 4000000 in
theorem jr_ifnonnull {off : Int} {np x y z w : Nat} {v : Value} {bs : List Bool} {q : jm_S} (hE : jr_E p c cc nL s args own nm m meth R) (hK : jr_K tx G.2.1 b G.2.2.1 G.2.2.2 sa A s) (hC : jr_cls cl G) (hW : ∀ w ∈ Wd, w ∈ lw_tbl) (he : jm_okb cl tx tb Wd own nm cc nL (pc, .ifnonnull off, np, x, y, z, w, v, bs) = true) (hst : jm_stp G (pc, .ifnonnull off, np, x, y, z, w, v, bs) L st h = some q)
    (hI : jr_I D cl A b sa s h H locs ws tys) (hL : jr_L b sa ws L ls nL) (hS : jr_S b sa ws st S) (hroom : cells + q.2.2.2.2.1 ≤ R.cells + h.2.1 ∧ slots + q.2.2.2.2.2 ≤ R.slots + h.2.2) (k : jr_go p l e R s m args below meth c D cl A nL b sa ws tys h cells slots Q q) : W p l e R s m args below meth c H locs cells slots Q (F0 m pc ls S) := by
  obtain ⟨hx, hb, hml, hts, hown, hnm, hRf, hRl⟩ := hE
  simp only [jm_okb, Bool.and_eq_true, decide_eq_true_eq] at he
  obtain ⟨hd0, hnp, hmk, ho⟩ := he
  simp only [jm_il] at hnp
  simp only [jm_stp] at hst
  have hd : decode cc pc = .ok (.ifnonnull off, 3) := by rw [show np - pc = 3 by omega] at hd0; exact hd0
  split at hst
  case h_1 k0 r0 =>
    cases hst
    obtain ⟨w0, R0, -, rfl, hS0⟩ := jr_S_r hS
    exact lv_ifnonnull hx hb hd ho (k.k0 hI rfl hL hS0)
  case h_2 r0 =>
    cases hst
    obtain ⟨V, R0, rfl, hV, hS0⟩ := jr_S_c hS
    cases (show V = _ from hV)
    subst hnp
    exact lv_ifnonnullN hx hb hd (k.k0 hI rfl hL hS0)
  case h_3 => cases hst
end JR
end
section
/-! instructions that read, write, make cells; switches; the JDK's members -/
theorem jm_get_inv {h : jm_H} {a ci j : Nat} {v : Value} (e : jm_get h a ci j = some v) : ∃ fs : List Value, h.1[a]? = some (.inl (ci, fs)) ∧ fs[j]? = some v := by
  unfold jm_get at e
  split at e
  next c fs q =>
    split at e
    next g => subst g; exact ⟨fs, q, e⟩
    next => cases e
  next => cases e
theorem jm_getI_inv {h : jm_H} {a ci j : Nat} {v : Int32} (e : jm_getI h a ci j = some v) : jm_get h a ci j = some (.int v) := by
  unfold jm_getI at e
  split at e
  next x q => cases e; exact q
  next => cases e
theorem jm_getL_inv {h : jm_H} {a ci j : Nat} {v : Int64} (e : jm_getL h a ci j = some v) : jm_get h a ci j = some (.long v) := by
  unfold jm_getL at e
  split at e
  next x q => cases e; exact q
  next => cases e
theorem jm_getR_inv {h : jm_H} {a ci j : Nat} {v : Nat} (e : jm_getR h a ci j = some v) : jm_get h a ci j = some (.ref v) := by
  unfold jm_getR at e
  split at e
  next x q => cases e; exact q
  next => cases e
theorem jm_put_inv {h h' : jm_H} {a ci j : Nat} {v : Value} (e : jm_put h a ci j v = some h') : ∃ fs : List Value, h.1[a]? = some (.inl (ci, fs)) ∧ j < fs.length ∧ h' = (h.1.set a (.inl (ci, fs.set j v)), h.2) := by
  unfold jm_put at e
  split at e
  next c fs q =>
    split at e
    next g => obtain ⟨rfl, g2⟩ := g; cases e; exact ⟨fs, q, g2, rfl⟩
    next => cases e
  next => cases e
/-- a place's real cell -/
theorem jr_H.obj {b : Nat} {sa : Nat → Nat} {ws : va_W} {tys : List (ClassId × FieldType)} {h : jm_H} (g : jr_H b sa ws tys h) {k ci : Nat} {fs : List Value} {w : Nat × va_E} (hk : h.1[k]? = some (.inl (ci, fs))) (hw : ws[k]? = some w) : ∃ Fs : List Value, w = (w.1, .inr (ci, Fs)) ∧ Fs.length = fs.length ∧ ∀ (j : Nat) (v : Value), fs[j]? = some v → ∃ V, Fs[j]? = some V ∧ jr_V b sa ws v V := by
  obtain ⟨w', h1, Fs, h2, h3, h4⟩ := g.2 k _ hk
  cases hw.symm.trans h1
  exact ⟨Fs, by rw [← h2], h3, h4⟩
theorem jr_H.arr {b : Nat} {sa : Nat → Nat} {ws : va_W} {tys : List (ClassId × FieldType)} {h : jm_H} (g : jr_H b sa ws tys h) {k : Nat} {t : FieldType} {x : vp_A} {w : Nat × va_E} (hk : h.1[k]? = some (.inr (t, x))) (hw : ws[k]? = some w) : ∃ (cA : ClassId) (y : _) (t0 : Nat), w = (w.1, .inl (cA, (x.1, y))) ∧ tys[t0]? = some (cA, t) ∧ jr_A ws x.2 y := by
  obtain ⟨w', h1, cA, y, h2, h3, h4⟩ := g.2 k _ hk
  cases hw.symm.trans h1
  obtain ⟨t0, ht0⟩ := List.getElem?_of_mem h3
  exact ⟨cA, y, t0, by rw [← h2], ht0, h4⟩
theorem jr_obj_set {b : Nat} {sa : Nat → Nat} {ws : va_W} {tys : List (ClassId × FieldType)} {ci j : Nat} {fs Fs : List Value} {v V : Value} (h1 : Fs.length = fs.length) (h2 : ∀ (j : Nat) (v : Value), fs[j]? = some v → ∃ V, Fs[j]? = some V ∧ jr_V b sa ws v V) (hv : jr_V b sa ws v V) : jr_C b sa ws tys (.inl (ci, fs.set j v)) (.inr (ci, Fs.set j V)) := by
  refine ⟨Fs.set j V, rfl, by simp [h1], fun i u hu => ?_⟩
  have hu : (fs.set j v)[i]? = some u := hu
  by_cases e : j = i
  · subst e
    have hl : j < fs.length := by
      have := (List.getElem?_eq_some_iff.mp hu).1
      simpa using this
    rw [List.getElem?_set_self hl] at hu
    cases hu
    exact ⟨V, List.getElem?_set_self (by rw [h1]; exact hl), hv⟩
  · rw [List.getElem?_set_ne e] at hu
    obtain ⟨U, g1, g2⟩ := h2 i u hu
    exact ⟨U, by rw [List.getElem?_set_ne e]; exact g1, g2⟩
theorem jm_zt_fit {z : Nat} {t : FieldType} {v V : Value} {b : Nat} {sa : Nat → Nat} {ws : va_W} (h : jm_zt z t = true) (hv : jr_V b sa ws v V) (hs : (∃ x, v = .int x ∧ (z = 0 ∨ (z = 3 ∧ (x = 0 ∨ x = 1)))) ∨ (∃ x, v = .long x ∧ z = 1) ∨ (∃ x, v = .ref x ∧ z = 2)) : narrow t V = V ∧ fits t V = true := by
  rcases hs with ⟨x, rfl, rfl | ⟨rfl, h3⟩⟩ | ⟨x, rfl, rfl⟩ | ⟨x, rfl, rfl⟩
  · cases (show V = _ from hv)
    cases t <;> simp [jm_zt] at h
    exact ⟨rfl, rfl⟩
  · cases (show V = _ from hv)
    cases t <;> simp [jm_zt] at h
    rcases h3 with rfl | rfl <;> exact ⟨rfl, rfl⟩
  · cases (show V = _ from hv)
    cases t <;> simp [jm_zt] at h
    exact ⟨rfl, rfl⟩
  · obtain ⟨w, -, rfl⟩ := hv
    cases t <;> simp [jm_zt] at h <;> exact ⟨rfl, rfl⟩
section JR
variable {p : Program} {l : Launch} {e : Env} {R : Room} {s : State} {m : MethodId} {args : Array Value} {below : List Frame} {meth : Method} {c : Code} {H : Heap} {locs : List Loc} {cells slots : Nat} {Q : State → Prop}
variable {cc : ByteArray} {pc : Nat} {ls : Array Slot} {D : va_G} {cl : List vw_C} {A : Nat → Prop} {tys : List (ClassId × FieldType)} {ws : va_W}
variable {G : jm_G} {tx : List String} {tb : List jm_M} {Wd : List Cond} {own nm : String} {nL b Ln : Nat} {xs : Nat → Int32} {sa : Nat → Nat} {L : jm_L} {st S : List Value} {h : jm_H}
set_option maxHeartbeats 4000000 in
theorem jr_getfield {n : Nat} {np x y z w : Nat} {v : Value} {bs : List Bool} {q : jm_S} (hE : jr_E p c cc nL s args own nm m meth R) (hK : jr_K tx G.2.1 b G.2.2.1 G.2.2.2 sa A s) (hC : jr_cls cl G) (hcl50 : cl[50]? = none) (hW : ∀ w ∈ Wd, w ∈ lw_tbl) (he : jm_okb cl tx tb Wd own nm cc nL (pc, .getfield n, np, x, y, z, w, v, bs) = true) (hst : jm_stp G (pc, .getfield n, np, x, y, z, w, v, bs) L st h = some q)
    (hI : jr_I D cl A b sa s h H locs ws tys) (hL : jr_L b sa ws L ls nL) (hS : jr_S b sa ws st S) (hroom : cells + q.2.2.2.2.1 ≤ R.cells + h.2.1 ∧ slots + q.2.2.2.2.2 ≤ R.slots + h.2.2) (k : jr_go p l e R s m args below meth c D cl A nL b sa ws tys h cells slots Q q) : W p l e R s m args below meth c H locs cells slots Q (F0 m pc ls S) := by
  obtain ⟨hx, hb, hml, hts, hown, hnm, hRf, hRl⟩ := hE
  simp only [jm_okb, Bool.and_eq_true, decide_eq_true_eq] at he
  obtain ⟨hd0, hnp, hmk, ho⟩ := he
  simp only [jm_il] at hnp
  simp only [jm_stp] at hst
  have hd : decode cc pc = .ok (.getfield n, 3) := by rw [show np - pc = 3 by omega] at hd0; exact hd0
  split at hst
  case h_3 => cases hst
  case h_2 kk r0 =>
    split at hst
    case isFalse => cases hst
    case isTrue hg =>
    obtain ⟨rfl, hkl⟩ := hg
    rw [if_pos rfl] at ho
    have ho := of_decide_eq_true ho
    obtain ⟨V, R0, rfl, hV, hS0⟩ := jr_S_c hS
    have hV : V = .ref (sa kk) := hV
    subst hV
    obtain ⟨hK1, hP, hD, hSS, hH⟩ := id hI
    obtain ⟨s1, s2, s3, s4⟩ := hK.2.2.2.1.1 kk hkl
    have hlk := hts _ (jr_g (hW _ (List.mem_of_getElem? ho)) (by split <;> rfl))
    subst hnp
    split at hst
    case isTrue hy =>
      cases hst
      rw [if_pos hy] at hlk
      exact vk_getf hx hb s3 hSS hown hlk (fun _ h9 => h9) hd (k.k0 hI rfl hL ⟨rfl, hS0⟩)
    case isFalse hy =>
      cases hst
      rw [if_neg hy] at hlk
      exact vk_getf hx hb s2 hSS hown hlk (fun _ h9 => h9) hd (k.k0 hI rfl hL ⟨rfl, hS0⟩)
  case h_1 a r0 =>
    have hx50 : ¬ x = 50 := fun e9 => by
      subst e9
      have : ∀ u : Value, jm_get h a 50 y = some u → False := fun u hu => by
        obtain ⟨fs, q1, q2⟩ := jm_get_inv hu
        obtain ⟨w9, g1, Fs9, g2, -⟩ := hI.2.2.2.2.2 a _ q1
        obtain ⟨hK1, hP, -⟩ := hI
        have g3 := hP a w9 g1
        unfold va_at at g3
        rw [g2] at g3
        obtain ⟨r9, g4, -⟩ := g3
        have g4 : cl[50]? = some r9 := g4
        rw [hcl50] at g4
        cases g4
      split at hst
      · obtain ⟨u, h1, -⟩ := Option.map_eq_some_iff.mp hst
        exact this _ (jm_getI_inv h1)
      · split at hst
        · obtain ⟨u, h1, -⟩ := Option.map_eq_some_iff.mp hst
          exact this _ (jm_getL_inv h1)
        · obtain ⟨u, h1, -⟩ := Option.map_eq_some_iff.mp hst
          exact this _ (jm_getR_inv h1)
    rw [if_neg hx50] at ho
    obtain ⟨w0, R0, hw0, rfl, hS0⟩ := jr_S_r hS
    split at ho
    case h_2 => cases ho
    case h_1 qc hqc =>
    simp only [Bool.and_eq_true, decide_eq_true_eq] at ho
    obtain ⟨ho1, ho2⟩ := ho
    obtain ⟨hc1, -⟩ := hC x qc hqc
    have hlink := hts _ (jr_g (hW _ (List.mem_of_getElem? ho2)) rfl)
    have fin : ∀ u : Value, jm_get h a x y = some u → ∀ q' : jm_S, q' = (np, L, u :: r0, h) → jr_go p l e R s m args below meth c D cl A nL b sa ws tys h cells slots Q q' → W p l e R s m args below meth c H locs cells slots Q (F0 m pc ls (.ref w0.1 :: R0)) := by
      intro u hu q' hq' k
      subst hq'
      obtain ⟨fs, hf1, hf2⟩ := jm_get_inv hu
      obtain ⟨hK1, hP, hD, hSS, hH⟩ := id hI
      obtain ⟨Fs, ew, el, ev⟩ := hH.obj hf1 hw0
      obtain ⟨V, hV1, hV2⟩ := ev y u hf2
      rw [ew] at hw0
      subst hnp
      exact va_get (D := D) (ci := x) (v := V) (C := qc.1) (T := qc.2.1) (N := qc.2.2) (ref := (qc.2.1 y).1) hx hb hts hc1 hown hK1 hP a hw0 hqc y ho1 hlink (fun _ h9 => h9) hV1 hd (k.k0 hI rfl hL ⟨hV2, hS0⟩)
    split at hst
    case isTrue =>
      obtain ⟨u, h1, rfl⟩ := Option.map_eq_some_iff.mp hst
      exact fin _ (jm_getI_inv h1) _ rfl k
    case isFalse =>
      split at hst
      case isTrue =>
        obtain ⟨u, h1, rfl⟩ := Option.map_eq_some_iff.mp hst
        exact fin _ (jm_getL_inv h1) _ rfl k
      case isFalse =>
        obtain ⟨u, h1, rfl⟩ := Option.map_eq_some_iff.mp hst
        exact fin _ (jm_getR_inv h1) _ rfl k
set_option maxHeartbeats 4000000 in
theorem jr_putfield {n : Nat} {np x y z w : Nat} {v : Value} {bs : List Bool} {q : jm_S} (hE : jr_E p c cc nL s args own nm m meth R) (hK : jr_K tx G.2.1 b G.2.2.1 G.2.2.2 sa A s) (hC : jr_cls cl G) (hW : ∀ w ∈ Wd, w ∈ lw_tbl) (he : jm_okb cl tx tb Wd own nm cc nL (pc, .putfield n, np, x, y, z, w, v, bs) = true) (hst : jm_stp G (pc, .putfield n, np, x, y, z, w, v, bs) L st h = some q)
    (hI : jr_I D cl A b sa s h H locs ws tys) (hL : jr_L b sa ws L ls nL) (hS : jr_S b sa ws st S) (hroom : cells + q.2.2.2.2.1 ≤ R.cells + h.2.1 ∧ slots + q.2.2.2.2.2 ≤ R.slots + h.2.2) (k : jr_go p l e R s m args below meth c D cl A nL b sa ws tys h cells slots Q q) : W p l e R s m args below meth c H locs cells slots Q (F0 m pc ls S) := by
  obtain ⟨hx, hb, hml, hts, hown, hnm, hRf, hRl⟩ := hE
  simp only [jm_okb, Bool.and_eq_true, decide_eq_true_eq] at he
  obtain ⟨hd0, hnp, hmk, ho⟩ := he
  simp only [jm_il] at hnp
  simp only [jm_stp] at hst
  have hd : decode cc pc = .ok (.putfield n, 3) := by rw [show np - pc = 3 by omega] at hd0; exact hd0
  split at ho
  case h_2 => cases ho
  case h_1 qc hqc =>
  simp only [Bool.and_eq_true, decide_eq_true_eq] at ho
  obtain ⟨ho1, ho2, ho3, ho4⟩ := ho
  obtain ⟨hc1, ⟨ty0, hty, hdf⟩, hnn, -⟩ := hC x qc hqc
  have hlink := hts _ (jr_g (hW _ (List.mem_of_getElem? ho2)) rfl)
  have fin : ∀ (a : Nat) (u : Value) (r0 : List Value) (h' : jm_H), st = u :: .ref a :: r0 → jm_put h a x y u = some h' → ((∃ x, u = .int x ∧ (z = 0 ∨ (z = 3 ∧ (x = 0 ∨ x = 1)))) ∨ (∃ x, u = .long x ∧ z = 1) ∨ (∃ x, u = .ref x ∧ z = 2)) → q = (np, L, r0, h') → W p l e R s m args below meth c H locs cells slots Q (F0 m pc ls S) := by
    intro a u r0 h' hst' hu hz hq'
    subst hq'
    subst hst'
    obtain ⟨V, R1, rfl, hV, hS1⟩ := jr_S_c hS
    obtain ⟨w0, R0, hw0, rfl, hS0⟩ := jr_S_r hS1
    obtain ⟨fs, hf1, hf2, rfl⟩ := jm_put_inv hu
    obtain ⟨hK1, hP, hD, hSS, hH⟩ := hI
    obtain ⟨Fs, ew, el, ev⟩ := hH.obj hf1 hw0
    rw [ew] at hw0
    split at ho3
    case h_2 => cases ho3
    case h_1 ty hpt =>
    obtain ⟨hn1, hn2⟩ := jm_zt_fit ho3 hV hz
    subst hnp
    have go : ∀ (H1 : Heap) (locs1 : List Loc), va_P D cl (ws.set a (w0.1, .inr (x, Fs.set y V))) H1 → va_D A (ws.set a (w0.1, .inr (x, Fs.set y V))) → va_S A s.heap H1 locs1 → W p l e R s m args below meth c H1 locs1 cells slots Q (F0 m (pc + 3) ls R0) := by
      intro H1 locs1 hP1 hD1 hS9
      exact k _ tys H1 locs1 ls R0 cells slots (jr_le.set hw0) (fun _ h => h) ⟨hK1, hP1, hD1, hS9, hH.set hw0 (jr_obj_set el ev hV)⟩ (hL.mono (jr_le.set hw0)) (hS0.mono (jr_le.set hw0)) rfl rfl
    split at ho4
    case isTrue hfin =>
      simp only [Bool.and_eq_true, decide_eq_true_eq] at ho4
      exact va_putF (D := D) (ci := x) (v := V) (ty := ty) (C := qc.1) (T := qc.2.1) (N := qc.2.2) (ref := (qc.2.1 y).1) hx hb hts hc1 ty0 hty hnn hown hK1 hP hD hSS a hw0 hqc y ho1 hlink (fun _ h9 => h9) hfin (hnm.trans ho4.1) ho4.2 hpt hn1 hn2 (by rw [el]; exact hf2) hd go
    case isFalse hfin =>
      exact va_put (D := D) (ci := x) (v := V) (ty := ty) (C := qc.1) (T := qc.2.1) (N := qc.2.2) (ref := (qc.2.1 y).1) hx hb hts hc1 ty0 hty hnn hown hK1 hP hD hSS a hw0 hqc y ho1 hlink (fun _ h9 => h9) (by simpa using hfin) hpt hn1 hn2 (by rw [el]; exact hf2) hd go
  split at hst
  case h_1 v0 a r0 =>
    split at hst
    case isTrue hz =>
      obtain ⟨h', h1, rfl⟩ := Option.map_eq_some_iff.mp hst
      exact fin a _ r0 h' rfl h1 (Or.inl ⟨v0, rfl, hz⟩) rfl
    case isFalse => cases hst
  case h_2 v0 a r0 =>
    split at hst
    case isTrue hz =>
      obtain ⟨h', h1, rfl⟩ := Option.map_eq_some_iff.mp hst
      exact fin a _ r0 h' rfl h1 (Or.inr (Or.inl ⟨v0, rfl, hz⟩)) rfl
    case isFalse => cases hst
  case h_3 v0 a r0 =>
    split at hst
    case isTrue hz =>
      obtain ⟨h', h1, rfl⟩ := Option.map_eq_some_iff.mp hst
      exact fin a _ r0 h' rfl h1 (Or.inr (Or.inr ⟨v0, rfl, hz⟩)) rfl
    case isFalse => cases hst
  case h_4 => cases hst
set_option maxHeartbeats 4000000 in
theorem jr_iaload {np x y z w : Nat} {v : Value} {bs : List Bool} {q : jm_S} (hE : jr_E p c cc nL s args own nm m meth R) (hK : jr_K tx G.2.1 b G.2.2.1 G.2.2.2 sa A s) (hC : jr_cls cl G) (hW : ∀ w ∈ Wd, w ∈ lw_tbl) (he : jm_okb cl tx tb Wd own nm cc nL (pc, .iaload, np, x, y, z, w, v, bs) = true) (hst : jm_stp G (pc, .iaload, np, x, y, z, w, v, bs) L st h = some q)
    (hI : jr_I D cl A b sa s h H locs ws tys) (hL : jr_L b sa ws L ls nL) (hS : jr_S b sa ws st S) (hroom : cells + q.2.2.2.2.1 ≤ R.cells + h.2.1 ∧ slots + q.2.2.2.2.2 ≤ R.slots + h.2.2) (k : jr_go p l e R s m args below meth c D cl A nL b sa ws tys h cells slots Q q) : W p l e R s m args below meth c H locs cells slots Q (F0 m pc ls S) := by
  obtain ⟨hx, hb, hml, hts, hown, hnm, hRf, hRl⟩ := hE
  simp only [jm_okb, Bool.and_eq_true, decide_eq_true_eq] at he
  obtain ⟨hd0, hnp, hmk, ho⟩ := he
  simp only [jm_il] at hnp
  simp only [jm_stp] at hst
  have hd : decode cc pc = .ok (.iaload, 1) := by rw [show np - pc = 1 by omega] at hd0; exact hd0
  split at hst
  case h_3 => cases hst
  case h_2 i0 u0 r0 =>
    split at hst
    case isFalse => cases hst
    case isTrue hg =>
    obtain ⟨rfl, hg2⟩ := hg
    cases hst
    obtain ⟨R1, rfl, hS1⟩ := jr_S_i hS
    obtain ⟨V, R0, rfl, hV, hS0⟩ := jr_S_c hS1
    have hV : V = .ref b := by
      rcases hV with ⟨-, h9⟩ | ⟨h9, -⟩
      · exact h9
      · exact absurd rfl h9
    subst hV
    obtain ⟨hK1, hP, hD, hSS, hH⟩ := id hI
    subst hnp
    exact va_sld hx hb hK.2.1.1 hK.2.1.2.1 hK.2.1.2.2 hSS (jm_in_of hg2) hd (k.k0 hI rfl hL ⟨rfl, hS0⟩)
  case h_1 i0 a r0 =>
    obtain ⟨u, h1, rfl⟩ := Option.map_eq_some_iff.mp hst
    obtain ⟨R1, rfl, hS1⟩ := jr_S_i hS
    obtain ⟨w0, R0, hw0, rfl, hS0⟩ := jr_S_r hS1
    unfold jm_aldI at h1
    split at h1
    case h_2 => cases h1
    case h_1 t' n f hf =>
    split at h1
    case isFalse => cases h1
    case isTrue hg =>
    obtain ⟨rfl, hg2⟩ := hg
    cases h1
    obtain ⟨hK1, hP, hD, hSS, hH⟩ := id hI
    obtain ⟨cA, y0, t0, ew, et, ey⟩ := hH.arr hf hw0
    cases (show y0 = _ from ey)
    rw [ew] at hw0
    subst hnp
    exact va_iald hx hb hK1 hP a t0 hw0 et (jm_in_of hg2) hd (k.k0 hI rfl hL ⟨rfl, hS0⟩)
set_option maxHeartbeats 4000000 in
theorem jr_baload {np x y z w : Nat} {v : Value} {bs : List Bool} {q : jm_S} (hE : jr_E p c cc nL s args own nm m meth R) (hK : jr_K tx G.2.1 b G.2.2.1 G.2.2.2 sa A s) (hC : jr_cls cl G) (hW : ∀ w ∈ Wd, w ∈ lw_tbl) (he : jm_okb cl tx tb Wd own nm cc nL (pc, .baload, np, x, y, z, w, v, bs) = true) (hst : jm_stp G (pc, .baload, np, x, y, z, w, v, bs) L st h = some q)
    (hI : jr_I D cl A b sa s h H locs ws tys) (hL : jr_L b sa ws L ls nL) (hS : jr_S b sa ws st S) (hroom : cells + q.2.2.2.2.1 ≤ R.cells + h.2.1 ∧ slots + q.2.2.2.2.2 ≤ R.slots + h.2.2) (k : jr_go p l e R s m args below meth c D cl A nL b sa ws tys h cells slots Q q) : W p l e R s m args below meth c H locs cells slots Q (F0 m pc ls S) := by
  obtain ⟨hx, hb, hml, hts, hown, hnm, hRf, hRl⟩ := hE
  simp only [jm_okb, Bool.and_eq_true, decide_eq_true_eq] at he
  obtain ⟨hd0, hnp, hmk, ho⟩ := he
  simp only [jm_il] at hnp
  simp only [jm_stp] at hst
  have hd : decode cc pc = .ok (.baload, 1) := by rw [show np - pc = 1 by omega] at hd0; exact hd0
  split at hst
  case h_3 => cases hst
  case h_2 j0 kk r0 =>
    split at hst
    case isTrue => cases hst
    case isFalse hk9 =>
    split at hst
    case h_2 => cases hst
    case h_1 sx hsx =>
    split at hst
    case isFalse => cases hst
    case isTrue hin =>
    cases hst
    obtain ⟨R1, rfl, hS1⟩ := jr_S_i hS
    obtain ⟨V, R0, rfl, hV, hS0⟩ := jr_S_c hS1
    have hV : V = .ref (sa kk) := hV
    subst hV
    obtain ⟨hK1, hP, hD, hSS, hH⟩ := id hI
    have hkl := (List.getElem?_eq_some_iff.mp hsx).1
    obtain ⟨s1, s2, s3, s4⟩ := hK.2.2.2.1.1 (kk - 1000) hkl
    dsimp only at s4
    rw [show kk - 1000 + 1000 = kk by omega] at s4
    have e1 : (G.2.1.map List.length).getD (kk - 1000) 0 = sx.length := by simp [List.getD, hsx]
    have e2 : G.2.1.getD (kk - 1000) [] = sx := by simp [List.getD, hsx]
    rw [e1] at s4
    subst hnp
    exact va_tb hx hb s4 hSS (jm_in_of hin) (by rw [e2]) hd (k.k0 hI rfl hL ⟨rfl, hS0⟩)
  case h_1 i0 a r0 =>
    obtain ⟨u, h1, rfl⟩ := Option.map_eq_some_iff.mp hst
    obtain ⟨R1, rfl, hS1⟩ := jr_S_i hS
    obtain ⟨w0, R0, hw0, rfl, hS0⟩ := jr_S_r hS1
    unfold jm_aldI at h1
    split at h1
    case h_2 => cases h1
    case h_1 t' n f hf =>
    split at h1
    case isFalse => cases h1
    case isTrue hg =>
    obtain ⟨rfl, hg2⟩ := hg
    cases h1
    obtain ⟨hK1, hP, hD, hSS, hH⟩ := id hI
    obtain ⟨cA, y0, t0, ew, et, ey⟩ := hH.arr hf hw0
    cases (show y0 = _ from ey)
    rw [ew] at hw0
    subst hnp
    exact va_bald hx hb hK1 hP a t0 hw0 et (jm_in_of hg2) hd (k.k0 hI rfl hL ⟨rfl, hS0⟩)
set_option maxHeartbeats 4000000 in
theorem jr_laload {np x y z w : Nat} {v : Value} {bs : List Bool} {q : jm_S} (hE : jr_E p c cc nL s args own nm m meth R) (hK : jr_K tx G.2.1 b G.2.2.1 G.2.2.2 sa A s) (hC : jr_cls cl G) (hW : ∀ w ∈ Wd, w ∈ lw_tbl) (he : jm_okb cl tx tb Wd own nm cc nL (pc, .laload, np, x, y, z, w, v, bs) = true) (hst : jm_stp G (pc, .laload, np, x, y, z, w, v, bs) L st h = some q)
    (hI : jr_I D cl A b sa s h H locs ws tys) (hL : jr_L b sa ws L ls nL) (hS : jr_S b sa ws st S) (hroom : cells + q.2.2.2.2.1 ≤ R.cells + h.2.1 ∧ slots + q.2.2.2.2.2 ≤ R.slots + h.2.2) (k : jr_go p l e R s m args below meth c D cl A nL b sa ws tys h cells slots Q q) : W p l e R s m args below meth c H locs cells slots Q (F0 m pc ls S) := by
  obtain ⟨hx, hb, hml, hts, hown, hnm, hRf, hRl⟩ := hE
  simp only [jm_okb, Bool.and_eq_true, decide_eq_true_eq] at he
  obtain ⟨hd0, hnp, hmk, ho⟩ := he
  simp only [jm_il] at hnp
  simp only [jm_stp] at hst
  have hd : decode cc pc = .ok (.laload, 1) := by rw [show np - pc = 1 by omega] at hd0; exact hd0
  split at hst
  case h_2 => cases hst
  case h_1 i0 a r0 =>
    obtain ⟨u, h1, rfl⟩ := Option.map_eq_some_iff.mp hst
    obtain ⟨R1, rfl, hS1⟩ := jr_S_i hS
    obtain ⟨w0, R0, hw0, rfl, hS0⟩ := jr_S_r hS1
    unfold jm_aldL at h1
    split at h1
    case h_2 => cases h1
    case h_1 t' n f hf =>
    split at h1
    case isFalse => cases h1
    case isTrue hg =>
    obtain ⟨rfl, hg2⟩ := hg
    cases h1
    obtain ⟨hK1, hP, hD, hSS, hH⟩ := id hI
    obtain ⟨cA, y0, t0, ew, et, ey⟩ := hH.arr hf hw0
    cases (show y0 = _ from ey)
    rw [ew] at hw0
    subst hnp
    exact va_lald hx hb hK1 hP a t0 hw0 et (jm_in_of hg2) hd (k.k0 hI rfl hL ⟨rfl, hS0⟩)
set_option maxHeartbeats 4000000 in
theorem jr_aaload {np x y z w : Nat} {v : Value} {bs : List Bool} {q : jm_S} (hE : jr_E p c cc nL s args own nm m meth R) (hK : jr_K tx G.2.1 b G.2.2.1 G.2.2.2 sa A s) (hC : jr_cls cl G) (hW : ∀ w ∈ Wd, w ∈ lw_tbl) (he : jm_okb cl tx tb Wd own nm cc nL (pc, .aaload, np, x, y, z, w, v, bs) = true) (hst : jm_stp G (pc, .aaload, np, x, y, z, w, v, bs) L st h = some q)
    (hI : jr_I D cl A b sa s h H locs ws tys) (hL : jr_L b sa ws L ls nL) (hS : jr_S b sa ws st S) (hroom : cells + q.2.2.2.2.1 ≤ R.cells + h.2.1 ∧ slots + q.2.2.2.2.2 ≤ R.slots + h.2.2) (k : jr_go p l e R s m args below meth c D cl A nL b sa ws tys h cells slots Q q) : W p l e R s m args below meth c H locs cells slots Q (F0 m pc ls S) := by
  obtain ⟨hx, hb, hml, hts, hown, hnm, hRf, hRl⟩ := hE
  simp only [jm_okb, Bool.and_eq_true, decide_eq_true_eq] at he
  obtain ⟨hd0, hnp, hmk, ho⟩ := he
  simp only [jm_il] at hnp
  simp only [jm_stp] at hst
  have hd : decode cc pc = .ok (.aaload, 1) := by rw [show np - pc = 1 by omega] at hd0; exact hd0
  split at hst
  case h_2 => cases hst
  case h_1 i0 a r0 =>
    obtain ⟨R1, rfl, hS1⟩ := jr_S_i hS
    obtain ⟨w0, R0, hw0, rfl, hS0⟩ := jr_S_r hS1
    have key : ∀ o : Option Nat, jm_aldR h a i0 = some o → ∃ O : Option Nat, jr_O ws o O ∧ (W p l e R s m args below meth c H locs cells slots Q (F0 m (pc + 1) ls (va_rf O :: R0)) → W p l e R s m args below meth c H locs cells slots Q (F0 m pc ls (.int i0 :: .ref w0.1 :: R0))) := by
      intro o h1
      unfold jm_aldR at h1
      split at h1
      case h_2 => cases h1
      case h_1 t' n f hf =>
      split at h1
      case isFalse => cases h1
      case isTrue hg =>
      obtain ⟨hg1, hg2⟩ := hg
      cases h1
      obtain ⟨hK1, hP, hD, hSS, hH⟩ := id hI
      obtain ⟨cA, y0, t0, ew, et, q', ey, eq⟩ := hH.arr hf hw0
      have ey : y0 = _ := ey
      subst ey
      rw [ew] at hw0
      have hin := jm_in_of hg2
      have hlt : i0.toNatClampNeg < n := Nat.not_le.mp fun q => hin (Or.inr q)
      exact ⟨q' i0.toNatClampNeg, eq _, fun kk => W.aald (v := va_rf (q' i0.toNatClampNeg)) (ty := t') hx hb (hP a _ hw0) ((hK1.2 t0 _ et).1 n (fun j => va_rf (q' j))) hg1 (fun q => by cases q) (by show ¬ (i0 < 0 ∨ (arrV _ _ _).slots.size ≤ _); rw [arrV_size]; exact hin) (by show (arrV _ _ _).slots[_]? = _; rw [arrV_read _ _ hlt]) rfl rfl hd kk⟩
    split at hst
    case h_1 v0 hv0 =>
      cases hst
      obtain ⟨O, hO, go⟩ := key _ hv0
      obtain ⟨w1, hw1, rfl⟩ := hO
      subst hnp
      exact go (k.k0 hI rfl hL ⟨⟨w1, hw1, rfl⟩, hS0⟩)
    case h_2 hv0 =>
      cases hst
      obtain ⟨O, hO, go⟩ := key _ hv0
      cases (show O = _ from hO)
      subst hnp
      exact go (k.k0 hI rfl hL ⟨rfl, hS0⟩)
    case h_3 => cases hst
set_option maxHeartbeats 4000000 in
theorem jr_iastore {np x y z w : Nat} {v : Value} {bs : List Bool} {q : jm_S} (hE : jr_E p c cc nL s args own nm m meth R) (hK : jr_K tx G.2.1 b G.2.2.1 G.2.2.2 sa A s) (hC : jr_cls cl G) (hW : ∀ w ∈ Wd, w ∈ lw_tbl) (he : jm_okb cl tx tb Wd own nm cc nL (pc, .iastore, np, x, y, z, w, v, bs) = true) (hst : jm_stp G (pc, .iastore, np, x, y, z, w, v, bs) L st h = some q)
    (hI : jr_I D cl A b sa s h H locs ws tys) (hL : jr_L b sa ws L ls nL) (hS : jr_S b sa ws st S) (hroom : cells + q.2.2.2.2.1 ≤ R.cells + h.2.1 ∧ slots + q.2.2.2.2.2 ≤ R.slots + h.2.2) (k : jr_go p l e R s m args below meth c D cl A nL b sa ws tys h cells slots Q q) : W p l e R s m args below meth c H locs cells slots Q (F0 m pc ls S) := by
  obtain ⟨hx, hb, hml, hts, hown, hnm, hRf, hRl⟩ := hE
  simp only [jm_okb, Bool.and_eq_true, decide_eq_true_eq] at he
  obtain ⟨hd0, hnp, hmk, ho⟩ := he
  simp only [jm_il] at hnp
  simp only [jm_stp] at hst
  have hd : decode cc pc = .ok (.iastore, 1) := by rw [show np - pc = 1 by omega] at hd0; exact hd0
  split at hst
  case h_2 => cases hst
  case h_1 v0 i0 a r0 =>
    obtain ⟨h', h1, rfl⟩ := Option.map_eq_some_iff.mp hst
    obtain ⟨R2, rfl, hS2⟩ := jr_S_i hS
    obtain ⟨R1, rfl, hS1⟩ := jr_S_i hS2
    obtain ⟨w0, R0, hw0, rfl, hS0⟩ := jr_S_r hS1
    unfold jm_astI at h1
    split at h1
    case h_2 => cases h1
    case h_1 t' n f hf =>
    split at h1
    case isFalse => cases h1
    case isTrue hg =>
    obtain ⟨rfl, hg2⟩ := hg
    cases h1
    obtain ⟨hK1, hP, hD, hSS, hH⟩ := hI
    obtain ⟨cA, y0, t0, ew, et, ey⟩ := hH.arr hf hw0
    cases (show y0 = _ from ey)
    rw [ew] at hw0
    subst hnp
    refine va_iast hx hb hK1 hP hD hSS a t0 hw0 et (jm_in_of hg2) hd (fun H1 locs1 hP1 hD1 hS9 => ?_)
    exact k _ tys H1 locs1 ls R0 cells slots (jr_le.set hw0) (fun _ h => h) ⟨hK1, hP1, hD1, hS9, hH.set hw0 ⟨cA, _, rfl, List.mem_of_getElem? et, rfl⟩⟩ (hL.mono (jr_le.set hw0)) (hS0.mono (jr_le.set hw0)) rfl rfl
set_option maxHeartbeats 4000000 in
theorem jr_bastore {np x y z w : Nat} {v : Value} {bs : List Bool} {q : jm_S} (hE : jr_E p c cc nL s args own nm m meth R) (hK : jr_K tx G.2.1 b G.2.2.1 G.2.2.2 sa A s) (hC : jr_cls cl G) (hW : ∀ w ∈ Wd, w ∈ lw_tbl) (he : jm_okb cl tx tb Wd own nm cc nL (pc, .bastore, np, x, y, z, w, v, bs) = true) (hst : jm_stp G (pc, .bastore, np, x, y, z, w, v, bs) L st h = some q)
    (hI : jr_I D cl A b sa s h H locs ws tys) (hL : jr_L b sa ws L ls nL) (hS : jr_S b sa ws st S) (hroom : cells + q.2.2.2.2.1 ≤ R.cells + h.2.1 ∧ slots + q.2.2.2.2.2 ≤ R.slots + h.2.2) (k : jr_go p l e R s m args below meth c D cl A nL b sa ws tys h cells slots Q q) : W p l e R s m args below meth c H locs cells slots Q (F0 m pc ls S) := by
  obtain ⟨hx, hb, hml, hts, hown, hnm, hRf, hRl⟩ := hE
  simp only [jm_okb, Bool.and_eq_true, decide_eq_true_eq] at he
  obtain ⟨hd0, hnp, hmk, ho⟩ := he
  simp only [jm_il] at hnp
  simp only [jm_stp] at hst
  have hd : decode cc pc = .ok (.bastore, 1) := by rw [show np - pc = 1 by omega] at hd0; exact hd0
  split at hst
  case h_2 => cases hst
  case h_1 v0 i0 a r0 =>
    obtain ⟨h', h1, rfl⟩ := Option.map_eq_some_iff.mp hst
    obtain ⟨R2, rfl, hS2⟩ := jr_S_i hS
    obtain ⟨R1, rfl, hS1⟩ := jr_S_i hS2
    obtain ⟨w0, R0, hw0, rfl, hS0⟩ := jr_S_r hS1
    unfold jm_astI at h1
    split at h1
    case h_2 => cases h1
    case h_1 t' n f hf =>
    split at h1
    case isFalse => cases h1
    case isTrue hg =>
    obtain ⟨rfl, hg2⟩ := hg
    cases h1
    obtain ⟨hK1, hP, hD, hSS, hH⟩ := hI
    obtain ⟨cA, y0, t0, ew, et, ey⟩ := hH.arr hf hw0
    cases (show y0 = _ from ey)
    rw [ew] at hw0
    subst hnp
    refine va_bast hx hb hK1 hP hD hSS a t0 hw0 et (jm_in_of hg2) hd (fun H1 locs1 hP1 hD1 hS9 => ?_)
    exact k _ tys H1 locs1 ls R0 cells slots (jr_le.set hw0) (fun _ h => h) ⟨hK1, hP1, hD1, hS9, hH.set hw0 ⟨cA, _, rfl, List.mem_of_getElem? et, rfl⟩⟩ (hL.mono (jr_le.set hw0)) (hS0.mono (jr_le.set hw0)) rfl rfl
set_option maxHeartbeats 4000000 in
theorem jr_lastore {np x y z w : Nat} {v : Value} {bs : List Bool} {q : jm_S} (hE : jr_E p c cc nL s args own nm m meth R) (hK : jr_K tx G.2.1 b G.2.2.1 G.2.2.2 sa A s) (hC : jr_cls cl G) (hW : ∀ w ∈ Wd, w ∈ lw_tbl) (he : jm_okb cl tx tb Wd own nm cc nL (pc, .lastore, np, x, y, z, w, v, bs) = true) (hst : jm_stp G (pc, .lastore, np, x, y, z, w, v, bs) L st h = some q)
    (hI : jr_I D cl A b sa s h H locs ws tys) (hL : jr_L b sa ws L ls nL) (hS : jr_S b sa ws st S) (hroom : cells + q.2.2.2.2.1 ≤ R.cells + h.2.1 ∧ slots + q.2.2.2.2.2 ≤ R.slots + h.2.2) (k : jr_go p l e R s m args below meth c D cl A nL b sa ws tys h cells slots Q q) : W p l e R s m args below meth c H locs cells slots Q (F0 m pc ls S) := by
  obtain ⟨hx, hb, hml, hts, hown, hnm, hRf, hRl⟩ := hE
  simp only [jm_okb, Bool.and_eq_true, decide_eq_true_eq] at he
  obtain ⟨hd0, hnp, hmk, ho⟩ := he
  simp only [jm_il] at hnp
  simp only [jm_stp] at hst
  have hd : decode cc pc = .ok (.lastore, 1) := by rw [show np - pc = 1 by omega] at hd0; exact hd0
  split at hst
  case h_2 => cases hst
  case h_1 v0 i0 a r0 =>
    obtain ⟨h', h1, rfl⟩ := Option.map_eq_some_iff.mp hst
    obtain ⟨R2, rfl, hS2⟩ := jr_S_l hS
    obtain ⟨R1, rfl, hS1⟩ := jr_S_i hS2
    obtain ⟨w0, R0, hw0, rfl, hS0⟩ := jr_S_r hS1
    unfold jm_astL at h1
    split at h1
    case h_2 => cases h1
    case h_1 t' n f hf =>
    split at h1
    case isFalse => cases h1
    case isTrue hg =>
    obtain ⟨rfl, hg2⟩ := hg
    cases h1
    obtain ⟨hK1, hP, hD, hSS, hH⟩ := hI
    obtain ⟨cA, y0, t0, ew, et, ey⟩ := hH.arr hf hw0
    cases (show y0 = _ from ey)
    rw [ew] at hw0
    subst hnp
    refine va_last hx hb hK1 hP hD hSS a t0 hw0 et (jm_in_of hg2) hd (fun H1 locs1 hP1 hD1 hS9 => ?_)
    exact k _ tys H1 locs1 ls R0 cells slots (jr_le.set hw0) (fun _ h => h) ⟨hK1, hP1, hD1, hS9, hH.set hw0 ⟨cA, _, rfl, List.mem_of_getElem? et, rfl⟩⟩ (hL.mono (jr_le.set hw0)) (hS0.mono (jr_le.set hw0)) rfl rfl
set_option maxHeartbeats 4000000 in
theorem jr_aastore {np x y z w : Nat} {v : Value} {bs : List Bool} {q : jm_S} (hE : jr_E p c cc nL s args own nm m meth R) (hK : jr_K tx G.2.1 b G.2.2.1 G.2.2.2 sa A s) (hC : jr_cls cl G) (hW : ∀ w ∈ Wd, w ∈ lw_tbl) (he : jm_okb cl tx tb Wd own nm cc nL (pc, .aastore, np, x, y, z, w, v, bs) = true) (hst : jm_stp G (pc, .aastore, np, x, y, z, w, v, bs) L st h = some q)
    (hI : jr_I D cl A b sa s h H locs ws tys) (hL : jr_L b sa ws L ls nL) (hS : jr_S b sa ws st S) (hroom : cells + q.2.2.2.2.1 ≤ R.cells + h.2.1 ∧ slots + q.2.2.2.2.2 ≤ R.slots + h.2.2) (k : jr_go p l e R s m args below meth c D cl A nL b sa ws tys h cells slots Q q) : W p l e R s m args below meth c H locs cells slots Q (F0 m pc ls S) := by
  obtain ⟨hx, hb, hml, hts, hown, hnm, hRf, hRl⟩ := hE
  simp only [jm_okb, Bool.and_eq_true, decide_eq_true_eq] at he
  obtain ⟨hd0, hnp, hmk, ho⟩ := he
  simp only [jm_il] at hnp
  simp only [jm_stp] at hst
  have hd : decode cc pc = .ok (.aastore, 1) := by rw [show np - pc = 1 by omega] at hd0; exact hd0
  split at hst
  case h_2 => cases hst
  case h_1 v0 i0 a r0 =>
    obtain ⟨h', h1, rfl⟩ := Option.map_eq_some_iff.mp hst
    obtain ⟨w2, R2, hw2, rfl, hS2⟩ := jr_S_r hS
    obtain ⟨R1, rfl, hS1⟩ := jr_S_i hS2
    obtain ⟨w0, R0, hw0, rfl, hS0⟩ := jr_S_r hS1
    unfold jm_astR at h1
    split at h1
    case h_2 => cases h1
    case h_1 t' n f c0 fs0 hf hf2 =>
    split at h1
    case isFalse => cases h1
    case isTrue hg =>
    obtain ⟨rfl, rfl, hg2⟩ := hg
    cases h1
    obtain ⟨hK1, hP, hD, hSS, hH⟩ := hI
    obtain ⟨cA, y0, t0, ew, et, q', ey, eq⟩ := hH.arr hf hw0
    have ey : y0 = _ := ey
    subst ey
    obtain ⟨Fs, ew2, el, ev⟩ := hH.obj hf2 hw2
    rw [ew] at hw0
    have hw2' := hw2
    rw [ew2] at hw2
    have hqc : cl[c0]? = some (cl[c0]'ho) := List.getElem?_eq_getElem ho
    obtain ⟨-, -, -, -, -, hnm9, -⟩ := hC c0 _ hqc
    rw [hnm9] at et
    subst hnp
    refine va_astq hx hb hK1 hP hD hSS a t0 v0 c0 (r := cl[c0]'ho) hw0 et hw2 hqc (jm_in_of hg2) hd (fun H1 locs1 hP1 hD1 hS9 => ?_)
    refine k _ tys H1 locs1 ls R0 cells slots (jr_le.set hw0) (fun _ h => h) ⟨hK1, hP1, hD1, hS9, hH.set hw0 ⟨cA, _, rfl, by rw [hnm9]; exact List.mem_of_getElem? et, _, rfl, fun j => ?_⟩⟩ (hL.mono (jr_le.set hw0)) (hS0.mono (jr_le.set hw0)) rfl rfl
    show jr_O ws (va_up f i0.toNatClampNeg (some v0) j) (va_up q' i0.toNatClampNeg (some w2.1) j)
    unfold va_up
    by_cases ej : j = i0.toNatClampNeg
    · rw [if_pos ej, if_pos ej]
      exact ⟨w2, hw2', rfl⟩
    · rw [if_neg ej, if_neg ej]
      exact eq j
set_option maxHeartbeats 4000000 in
theorem jr_arraylength {np x y z w : Nat} {v : Value} {bs : List Bool} {q : jm_S} (hE : jr_E p c cc nL s args own nm m meth R) (hK : jr_K tx G.2.1 b G.2.2.1 G.2.2.2 sa A s) (hC : jr_cls cl G) (hW : ∀ w ∈ Wd, w ∈ lw_tbl) (he : jm_okb cl tx tb Wd own nm cc nL (pc, .arraylength, np, x, y, z, w, v, bs) = true) (hst : jm_stp G (pc, .arraylength, np, x, y, z, w, v, bs) L st h = some q)
    (hI : jr_I D cl A b sa s h H locs ws tys) (hL : jr_L b sa ws L ls nL) (hS : jr_S b sa ws st S) (hroom : cells + q.2.2.2.2.1 ≤ R.cells + h.2.1 ∧ slots + q.2.2.2.2.2 ≤ R.slots + h.2.2) (k : jr_go p l e R s m args below meth c D cl A nL b sa ws tys h cells slots Q q) : W p l e R s m args below meth c H locs cells slots Q (F0 m pc ls S) := by
  obtain ⟨hx, hb, hml, hts, hown, hnm, hRf, hRl⟩ := hE
  simp only [jm_okb, Bool.and_eq_true, decide_eq_true_eq] at he
  obtain ⟨hd0, hnp, hmk, ho⟩ := he
  simp only [jm_il] at hnp
  simp only [jm_stp] at hst
  have hd : decode cc pc = .ok (.arraylength, 1) := by rw [show np - pc = 1 by omega] at hd0; exact hd0
  split at hst
  case h_4 => cases hst
  case h_2 u0 r0 =>
    split at hst
    case isFalse => cases hst
    case isTrue hg =>
    subst hg
    cases hst
    obtain ⟨V, R0, rfl, hV, hS0⟩ := jr_S_c hS
    have hV : V = .ref b := by
      rcases hV with ⟨-, h9⟩ | ⟨h9, -⟩
      · exact h9
      · exact absurd rfl h9
    subst hV
    obtain ⟨hK1, hP, hD, hSS, hH⟩ := id hI
    subst hnp
    exact va_slen hx hb hK.2.1.1 hK.2.1.2.1 hK.2.1.2.2 hSS hd (k.k0 hI rfl hL ⟨rfl, hS0⟩)
  case h_3 kk r0 =>
    split at hst
    case isTrue => cases hst
    case isFalse hk9 =>
    obtain ⟨sx, hsx, rfl⟩ := Option.map_eq_some_iff.mp hst
    obtain ⟨V, R0, rfl, hV, hS0⟩ := jr_S_c hS
    have hV : V = .ref (sa kk) := hV
    subst hV
    obtain ⟨hK1, hP, hD, hSS, hH⟩ := id hI
    have hkl := (List.getElem?_eq_some_iff.mp hsx).1
    obtain ⟨s1, s2, s3, s4⟩ := hK.2.2.2.1.1 (kk - 1000) hkl
    dsimp only at s4
    rw [show kk - 1000 + 1000 = kk by omega] at s4
    have e1 : (G.2.1.map List.length).getD (kk - 1000) 0 = sx.length := by simp [List.getD, hsx]
    rw [e1] at s4
    obtain ⟨cell, t1, t2, t3, t4, t5, t6, t7⟩ := s4
    subst hnp
    exact W.alen (n := Int32.ofNat sx.length) hx hb (by rw [hSS.2.1 _ (Array.getElem?_eq_some_iff.mp t1).1 t7]; exact t1) t2 t5 rfl rfl hd (k.k0 hI rfl hL ⟨rfl, hS0⟩)
  case h_1 a r0 =>
    obtain ⟨u, h1, rfl⟩ := Option.map_eq_some_iff.mp hst
    obtain ⟨w0, R0, hw0, rfl, hS0⟩ := jr_S_r hS
    unfold jm_len at h1
    split at h1
    case h_2 => cases h1
    case h_1 t' n f hf =>
    cases h1
    obtain ⟨hK1, hP, hD, hSS, hH⟩ := id hI
    obtain ⟨cA, y0, t0, ew, et, ey⟩ := hH.arr hf hw0
    rw [ew] at hw0
    subst hnp
    exact va_alen hx hb hK1 hP a t0 hw0 et rfl hd (k.k0 hI rfl hL ⟨rfl, hS0⟩)
set_option maxHeartbeats 4000000 in
theorem jr_new {n : Nat} {np x y z w : Nat} {v : Value} {bs : List Bool} {q : jm_S} (hE : jr_E p c cc nL s args own nm m meth R) (hK : jr_K tx G.2.1 b G.2.2.1 G.2.2.2 sa A s) (hC : jr_cls cl G) (h20 : ¬ 2000 ≤ x) (hW : ∀ w ∈ Wd, w ∈ lw_tbl) (he : jm_okb cl tx tb Wd own nm cc nL (pc, .new n, np, x, y, z, w, v, bs) = true) (hst : jm_stp G (pc, .new n, np, x, y, z, w, v, bs) L st h = some q)
    (hI : jr_I D cl A b sa s h H locs ws tys) (hL : jr_L b sa ws L ls nL) (hS : jr_S b sa ws st S) (hroom : cells + q.2.2.2.2.1 ≤ R.cells + h.2.1 ∧ slots + q.2.2.2.2.2 ≤ R.slots + h.2.2) (k : jr_go p l e R s m args below meth c D cl A nL b sa ws tys h cells slots Q q) : W p l e R s m args below meth c H locs cells slots Q (F0 m pc ls S) := by
  obtain ⟨hx, hb, hml, hts, hown, hnm, hRf, hRl⟩ := hE
  simp only [jm_okb, Bool.and_eq_true, decide_eq_true_eq] at he
  obtain ⟨hd0, hnp, hmk, ho⟩ := he
  simp only [jm_il] at hnp
  simp only [jm_stp] at hst
  have hd : decode cc pc = .ok (.new n, 3) := by rw [show np - pc = 3 by omega] at hd0; exact hd0
  have hst : some (np, L, Value.ref h.1.length :: st, jm_add h (.inl (x, jm_fld G x)) (jm_fld G x).length) = some q := hst
  cases hst
  split at ho
  case h_2 => exact absurd (of_decide_eq_true ho) h20
  case h_1 qc hqc =>
  have ho := of_decide_eq_true ho
  obtain ⟨hc1, ⟨ty0, hty, hdf⟩, hnn, hin, hini, hnm9, hln, hall⟩ := hC x qc hqc
  obtain ⟨hK1, hP, hD, hSS, hH⟩ := hI
  have hroom : cells + (h.2.1 + 1) ≤ R.cells + h.2.1 ∧ slots + (h.2.2 + (jm_fld G x).length) ≤ R.slots + h.2.2 := hroom
  subst hnp
  refine va_new (ci := x) (fs := jm_fld G x) (C := qc.1) (T := qc.2.1) (N := qc.2.2) hx hb hts hc1 ty0 hty hown (hts _ (jr_g (hW _ (List.mem_of_getElem? ho)) rfl)) (hts _ hin) (hts _ hini) hK1 hP hD hSS hK.1 hqc hdf (by omega) (by rw [← hln]; omega) hd (fun q9 H1 hP1 hD1 hS9 => ?_)
  refine k _ tys H1 locs ls _ (cells + 1) (slots + qc.2.2) (jr_le.app _) (fun _ h => h) ⟨hK1, hP1, hD1, hS9, hH.push (fun _ h => h) ⟨jm_fld G x, rfl, rfl, fun j v hv => ⟨v, hv, ?_⟩⟩⟩ (hL.mono (jr_le.app _)) ⟨⟨(q9, .inr (x, jm_fld G x)), ?_, rfl⟩, hS.mono (jr_le.app _)⟩ (by show cells + 1 + h.2.1 = cells + (h.2.1 + 1); omega) (by show slots + qc.2.2 + h.2.2 = slots + (h.2.2 + (jm_fld G x).length); rw [hln]; omega)
  · rcases hall v (List.mem_of_getElem? hv) with rfl | rfl | rfl <;> rfl
  · rw [List.getElem?_append_right (by rw [hH.1]; exact Nat.le_refl _), hH.1]; simp
set_option maxHeartbeats 4000000 in
theorem jr_getstatic {n : Nat} {np x y z w : Nat} {v : Value} {bs : List Bool} {q : jm_S} (hE : jr_E p c cc nL s args own nm m meth R) (hK : jr_K tx G.2.1 b G.2.2.1 G.2.2.2 sa A s) (hC : jr_cls cl G) (hW : ∀ w ∈ Wd, w ∈ lw_tbl) (he : jm_okb cl tx tb Wd own nm cc nL (pc, .getstatic n, np, x, y, z, w, v, bs) = true) (hst : jm_stp G (pc, .getstatic n, np, x, y, z, w, v, bs) L st h = some q)
    (hI : jr_I D cl A b sa s h H locs ws tys) (hL : jr_L b sa ws L ls nL) (hS : jr_S b sa ws st S) (hroom : cells + q.2.2.2.2.1 ≤ R.cells + h.2.1 ∧ slots + q.2.2.2.2.2 ≤ R.slots + h.2.2) (k : jr_go p l e R s m args below meth c D cl A nL b sa ws tys h cells slots Q q) : W p l e R s m args below meth c H locs cells slots Q (F0 m pc ls S) := by
  obtain ⟨hx, hb, hml, hts, hown, hnm, hRf, hRl⟩ := hE
  simp only [jm_okb, Bool.and_eq_true, decide_eq_true_eq] at he
  obtain ⟨hd0, hnp, hmk, ho⟩ := he
  simp only [jm_il] at hnp
  simp only [jm_stp] at hst
  have hd : decode cc pc = .ok (.getstatic n, 3) := by rw [show np - pc = 3 by omega] at hd0; exact hd0
  have hlk := hts _ (jr_g (hW _ (List.mem_of_getElem? ho)) (by split <;> rfl))
  obtain ⟨hK1, hP, hD, hSS, hH⟩ := id hI
  obtain ⟨z1, z2⟩ := hK.2.2.2.2.1
  subst hnp
  split at hst
  case isTrue hy =>
    cases hst
    rw [if_pos hy] at hlk
    exact va_gets hx hb z1 hSS hown hlk (fun _ h9 => h9) hd (k.k0 hI rfl hL ⟨rfl, hS⟩)
  case isFalse hy =>
    cases hst
    rw [if_neg hy] at hlk
    rcases z2 with z2 | ⟨t, z2⟩
    · exact va_gets hx hb z2 hSS hown hlk (fun _ h9 => h9) hd (k.k0 hI rfl hL ⟨Or.inr ⟨by decide, Or.inl rfl⟩, hS⟩)
    · exact va_gets hx hb z2 hSS hown hlk (fun _ h9 => h9) hd (k.k0 hI rfl hL ⟨Or.inr ⟨by decide, Or.inr ⟨t, rfl⟩⟩, hS⟩)
end JR
end
section
/-! arrays made, switches, constants of the pool, the JDK's members -/
theorem jr_arr_int : Cond.arrayClass .int ∈ jr_T := jr_g (List.mem_append_right _ (by decide +kernel)) rfl
theorem jr_arr_byte : Cond.arrayClass .byte ∈ jr_T := jr_g (List.mem_append_right _ (by decide +kernel)) rfl
theorem jr_arr_long : Cond.arrayClass .long ∈ jr_T := jr_g (List.mem_append_right _ (by decide +kernel)) rfl
theorem jr_oi : Cond.instanceMethod Lib.objectInit ∈ jr_T := jr_g (List.mem_append_right _ (by decide +kernel)) rfl
theorem jr_oc : Cond.code Lib.objectInit ⟨#[0xb1]⟩ 1 none ∈ jr_T := jr_g (List.mem_append_right _ (by decide +kernel)) rfl
theorem jr_ms : Cond.initialized "java/lang/Math" ∈ jr_T := jr_g (List.mem_append_right _ (by decide +kernel)) rfl
theorem jr_max_s : Cond.static Lib.Math.max.name ∈ jr_T := jr_g (List.mem_append_right _ (by decide +kernel)) rfl
theorem jr_max_c : Cond.code Lib.Math.max.name Lib.Math.max.code 2 (some .int) ∈ jr_T := jr_g (List.mem_append_right _ (by decide +kernel)) rfl
theorem jr_min_s : Cond.static Lib.Math.min.name ∈ jr_T := jr_g (List.mem_append_right _ (by decide +kernel)) rfl
theorem jr_min_c : Cond.code Lib.Math.min.name Lib.Math.min.code 2 (some .int) ∈ jr_T := jr_g (List.mem_append_right _ (by decide +kernel)) rfl
theorem jr_maxl_s : Cond.static Lib.MathLoose.max_long.x ∈ jr_T := jr_g (List.mem_append_right _ (by decide +kernel)) rfl
theorem jr_maxl_c : Cond.code Lib.MathLoose.max_long.x Lib.MathLoose.max_long.code 4 (some .long) ∈ jr_T := jr_g (List.mem_append_right _ (by decide +kernel)) rfl
theorem jr_minl_s : Cond.static Lib.MathLoose.min_long.x ∈ jr_T := jr_g (List.mem_append_right _ (by decide +kernel)) rfl
theorem jr_minl_c : Cond.code Lib.MathLoose.min_long.x Lib.MathLoose.min_long.code 4 (some .long) ∈ jr_T := jr_g (List.mem_append_right _ (by decide +kernel)) rfl
section JR
variable {p : Program} {l : Launch} {e : Env} {R : Room} {s : State} {m : MethodId} {args : Array Value} {below : List Frame} {meth : Method} {c : Code} {H : Heap} {locs : List Loc} {cells slots : Nat} {Q : State → Prop}
variable {cc : ByteArray} {pc : Nat} {ls : Array Slot} {D : va_G} {cl : List vw_C} {A : Nat → Prop} {tys : List (ClassId × FieldType)} {ws : va_W}
variable {G : jm_G} {tx : List String} {tb : List jm_M} {Wd : List Cond} {own nm : String} {nL b Ln : Nat} {xs : Nat → Int32} {sa : Nat → Nat} {L : jm_L} {st S : List Value} {h : jm_H}
theorem jr_ldcSW (hexec : p.tables.exec = Jvm.exec) (hb : c.code = cc) {tx0 : String} {index q : Nat} {rest : List Value} (hown : s.vm.findClass own = some m.cls) (hZ : vk_R own index tx0 q s) (hdg : decode cc pc = .ok (.ldc_w index, 3))
    (kk : W p l e R s m args below meth c H locs cells slots Q (F0 m (pc + 3) ls (.ref q :: rest))) : W p l e R s m args below meth c H locs cells slots Q (F0 m pc ls rest) := by
  intro T hT X
  obtain ⟨t, a1, b1⟩ := kk T hT X
  exact ⟨t, X.ldcStringW hexec hown (text := tx0) (a := q) hZ.1 hZ.2 (g := F0 m pc ls rest) rfl (by rw [hb]; exact hdg) t a1, b1⟩
set_option maxHeartbeats 4000000 in
theorem jr_newarray_int {np x y z w : Nat} {v : Value} {bs : List Bool} {q : jm_S} (hE : jr_E p c cc nL s args own nm m meth R) (hK : jr_K tx G.2.1 b G.2.2.1 G.2.2.2 sa A s) (hC : jr_cls cl G) (hW : ∀ w ∈ Wd, w ∈ lw_tbl) (he : jm_okb cl tx tb Wd own nm cc nL (pc, .newarray .int, np, x, y, z, w, v, bs) = true) (hst : jm_stp G (pc, .newarray .int, np, x, y, z, w, v, bs) L st h = some q)
    (hI : jr_I D cl A b sa s h H locs ws tys) (hL : jr_L b sa ws L ls nL) (hS : jr_S b sa ws st S) (hroom : cells + q.2.2.2.2.1 ≤ R.cells + h.2.1 ∧ slots + q.2.2.2.2.2 ≤ R.slots + h.2.2) (k : jr_go p l e R s m args below meth c D cl A nL b sa ws tys h cells slots Q q) : W p l e R s m args below meth c H locs cells slots Q (F0 m pc ls S) := by
  obtain ⟨hx, hb, hml, hts, hown, hnm, hRf, hRl⟩ := hE
  simp only [jm_okb, Bool.and_eq_true, decide_eq_true_eq] at he
  obtain ⟨hd0, hnp, hmk, ho⟩ := he
  simp only [jm_il] at hnp
  simp only [jm_stp] at hst
  have hd : decode cc pc = .ok (.newarray .int, 2) := by rw [show np - pc = 2 by omega] at hd0; exact hd0
  split at hst
  case h_2 => cases hst
  case h_1 n0 r0 =>
    split at hst
    case isTrue => cases hst
    case isFalse hg =>
    cases hst
    obtain ⟨R0, rfl, hS0⟩ := jr_S_i hS
    obtain ⟨hK1, hP, hD, hSS, hH⟩ := hI
    have hroom : cells + (h.2.1 + 1) ≤ R.cells + h.2.1 ∧ slots + (h.2.2 + n0.toNatClampNeg) ≤ R.slots + h.2.2 := hroom
    have hn0 : ¬ n0 < 0 := fun q => hg (Or.inl q)
    have hn1 : n0.toNatClampNeg ≤ 65536 := by omega
    subst hnp
    refine va_newa (atype := .int) (ty := .int) (a0 := (n0.toNatClampNeg, .inl fun _ => 0)) hx hb (hts _ jr_arr_int) rfl hK1 hP hD hSS hK.1 (fun cA => rfl) hn0 rfl (by show _ * 4 ≤ 536870912; omega) (by omega) (by omega) hd (fun q9 cA H1 hK9 hP1 hD1 hS9 => ?_)
    refine k (ws ++ [(q9, .inl (cA, (n0.toNatClampNeg, .inl fun _ => 0)))]) _ H1 locs ls _ (cells + 1) (slots + n0.toNatClampNeg) (jr_le.app _) (fun t ht => List.mem_append_left _ ht) ⟨hK9, hP1, hD1, hS9, hH.push (fun t ht => List.mem_append_left _ ht) ⟨cA, _, rfl, List.mem_append_right _ List.mem_cons_self, rfl⟩⟩ (hL.mono (jr_le.app _)) ⟨⟨(q9, .inl (cA, (n0.toNatClampNeg, .inl fun _ => 0))), ?_, rfl⟩, hS0.mono (jr_le.app _)⟩ (by show cells + 1 + h.2.1 = cells + (h.2.1 + 1); omega) (by show slots + n0.toNatClampNeg + h.2.2 = slots + (h.2.2 + n0.toNatClampNeg); omega)
    rw [List.getElem?_append_right (by rw [hH.1]; exact Nat.le_refl _), hH.1]; simp
set_option maxHeartbeats 4000000 in
theorem jr_newarray_byte {np x y z w : Nat} {v : Value} {bs : List Bool} {q : jm_S} (hE : jr_E p c cc nL s args own nm m meth R) (hK : jr_K tx G.2.1 b G.2.2.1 G.2.2.2 sa A s) (hC : jr_cls cl G) (hW : ∀ w ∈ Wd, w ∈ lw_tbl) (he : jm_okb cl tx tb Wd own nm cc nL (pc, .newarray .byte, np, x, y, z, w, v, bs) = true) (hst : jm_stp G (pc, .newarray .byte, np, x, y, z, w, v, bs) L st h = some q)
    (hI : jr_I D cl A b sa s h H locs ws tys) (hL : jr_L b sa ws L ls nL) (hS : jr_S b sa ws st S) (hroom : cells + q.2.2.2.2.1 ≤ R.cells + h.2.1 ∧ slots + q.2.2.2.2.2 ≤ R.slots + h.2.2) (k : jr_go p l e R s m args below meth c D cl A nL b sa ws tys h cells slots Q q) : W p l e R s m args below meth c H locs cells slots Q (F0 m pc ls S) := by
  obtain ⟨hx, hb, hml, hts, hown, hnm, hRf, hRl⟩ := hE
  simp only [jm_okb, Bool.and_eq_true, decide_eq_true_eq] at he
  obtain ⟨hd0, hnp, hmk, ho⟩ := he
  simp only [jm_il] at hnp
  simp only [jm_stp] at hst
  have hd : decode cc pc = .ok (.newarray .byte, 2) := by rw [show np - pc = 2 by omega] at hd0; exact hd0
  split at hst
  case h_2 => cases hst
  case h_1 n0 r0 =>
    split at hst
    case isTrue => cases hst
    case isFalse hg =>
    cases hst
    obtain ⟨R0, rfl, hS0⟩ := jr_S_i hS
    obtain ⟨hK1, hP, hD, hSS, hH⟩ := hI
    have hroom : cells + (h.2.1 + 1) ≤ R.cells + h.2.1 ∧ slots + (h.2.2 + n0.toNatClampNeg) ≤ R.slots + h.2.2 := hroom
    have hn0 : ¬ n0 < 0 := fun q => hg (Or.inl q)
    have hn1 : n0.toNatClampNeg ≤ 65536 := by omega
    subst hnp
    refine va_newa (atype := .byte) (ty := .byte) (a0 := (n0.toNatClampNeg, .inl fun _ => 0)) hx hb (hts _ jr_arr_byte) rfl hK1 hP hD hSS hK.1 (fun cA => rfl) hn0 rfl (by show _ * 1 ≤ 536870912; omega) (by omega) (by omega) hd (fun q9 cA H1 hK9 hP1 hD1 hS9 => ?_)
    refine k (ws ++ [(q9, .inl (cA, (n0.toNatClampNeg, .inl fun _ => 0)))]) _ H1 locs ls _ (cells + 1) (slots + n0.toNatClampNeg) (jr_le.app _) (fun t ht => List.mem_append_left _ ht) ⟨hK9, hP1, hD1, hS9, hH.push (fun t ht => List.mem_append_left _ ht) ⟨cA, _, rfl, List.mem_append_right _ List.mem_cons_self, rfl⟩⟩ (hL.mono (jr_le.app _)) ⟨⟨(q9, .inl (cA, (n0.toNatClampNeg, .inl fun _ => 0))), ?_, rfl⟩, hS0.mono (jr_le.app _)⟩ (by show cells + 1 + h.2.1 = cells + (h.2.1 + 1); omega) (by show slots + n0.toNatClampNeg + h.2.2 = slots + (h.2.2 + n0.toNatClampNeg); omega)
    rw [List.getElem?_append_right (by rw [hH.1]; exact Nat.le_refl _), hH.1]; simp
set_option maxHeartbeats 4000000 in
theorem jr_newarray_long {np x y z w : Nat} {v : Value} {bs : List Bool} {q : jm_S} (hE : jr_E p c cc nL s args own nm m meth R) (hK : jr_K tx G.2.1 b G.2.2.1 G.2.2.2 sa A s) (hC : jr_cls cl G) (hW : ∀ w ∈ Wd, w ∈ lw_tbl) (he : jm_okb cl tx tb Wd own nm cc nL (pc, .newarray .long, np, x, y, z, w, v, bs) = true) (hst : jm_stp G (pc, .newarray .long, np, x, y, z, w, v, bs) L st h = some q)
    (hI : jr_I D cl A b sa s h H locs ws tys) (hL : jr_L b sa ws L ls nL) (hS : jr_S b sa ws st S) (hroom : cells + q.2.2.2.2.1 ≤ R.cells + h.2.1 ∧ slots + q.2.2.2.2.2 ≤ R.slots + h.2.2) (k : jr_go p l e R s m args below meth c D cl A nL b sa ws tys h cells slots Q q) : W p l e R s m args below meth c H locs cells slots Q (F0 m pc ls S) := by
  obtain ⟨hx, hb, hml, hts, hown, hnm, hRf, hRl⟩ := hE
  simp only [jm_okb, Bool.and_eq_true, decide_eq_true_eq] at he
  obtain ⟨hd0, hnp, hmk, ho⟩ := he
  simp only [jm_il] at hnp
  simp only [jm_stp] at hst
  have hd : decode cc pc = .ok (.newarray .long, 2) := by rw [show np - pc = 2 by omega] at hd0; exact hd0
  split at hst
  case h_2 => cases hst
  case h_1 n0 r0 =>
    split at hst
    case isTrue => cases hst
    case isFalse hg =>
    cases hst
    obtain ⟨R0, rfl, hS0⟩ := jr_S_i hS
    obtain ⟨hK1, hP, hD, hSS, hH⟩ := hI
    have hroom : cells + (h.2.1 + 1) ≤ R.cells + h.2.1 ∧ slots + (h.2.2 + n0.toNatClampNeg) ≤ R.slots + h.2.2 := hroom
    have hn0 : ¬ n0 < 0 := fun q => hg (Or.inl q)
    have hn1 : n0.toNatClampNeg ≤ 65536 := by omega
    subst hnp
    refine va_newa (atype := .long) (ty := .long) (a0 := (n0.toNatClampNeg, .inr (.inl fun _ => 0))) hx hb (hts _ jr_arr_long) rfl hK1 hP hD hSS hK.1 (fun cA => rfl) hn0 rfl (by show _ * 8 ≤ 536870912; omega) (by omega) (by omega) hd (fun q9 cA H1 hK9 hP1 hD1 hS9 => ?_)
    refine k (ws ++ [(q9, .inl (cA, (n0.toNatClampNeg, .inr (.inl fun _ => 0))))]) _ H1 locs ls _ (cells + 1) (slots + n0.toNatClampNeg) (jr_le.app _) (fun t ht => List.mem_append_left _ ht) ⟨hK9, hP1, hD1, hS9, hH.push (fun t ht => List.mem_append_left _ ht) ⟨cA, _, rfl, List.mem_append_right _ List.mem_cons_self, rfl⟩⟩ (hL.mono (jr_le.app _)) ⟨⟨(q9, .inl (cA, (n0.toNatClampNeg, .inr (.inl fun _ => 0)))), ?_, rfl⟩, hS0.mono (jr_le.app _)⟩ (by show cells + 1 + h.2.1 = cells + (h.2.1 + 1); omega) (by show slots + n0.toNatClampNeg + h.2.2 = slots + (h.2.2 + n0.toNatClampNeg); omega)
    rw [List.getElem?_append_right (by rw [hH.1]; exact Nat.le_refl _), hH.1]; simp
set_option maxHeartbeats 4000000 in
theorem jr_anewarray {n : Nat} {np x y z w : Nat} {v : Value} {bs : List Bool} {q : jm_S} (hE : jr_E p c cc nL s args own nm m meth R) (hK : jr_K tx G.2.1 b G.2.2.1 G.2.2.2 sa A s) (hC : jr_cls cl G) (hW : ∀ w ∈ Wd, w ∈ lw_tbl) (he : jm_okb cl tx tb Wd own nm cc nL (pc, .anewarray n, np, x, y, z, w, v, bs) = true) (hst : jm_stp G (pc, .anewarray n, np, x, y, z, w, v, bs) L st h = some q)
    (hI : jr_I D cl A b sa s h H locs ws tys) (hL : jr_L b sa ws L ls nL) (hS : jr_S b sa ws st S) (hroom : cells + q.2.2.2.2.1 ≤ R.cells + h.2.1 ∧ slots + q.2.2.2.2.2 ≤ R.slots + h.2.2) (k : jr_go p l e R s m args below meth c D cl A nL b sa ws tys h cells slots Q q) : W p l e R s m args below meth c H locs cells slots Q (F0 m pc ls S) := by
  obtain ⟨hx, hb, hml, hts, hown, hnm, hRf, hRl⟩ := hE
  simp only [jm_okb, Bool.and_eq_true, decide_eq_true_eq] at he
  obtain ⟨hd0, hnp, hmk, ho⟩ := he
  simp only [jm_il] at hnp
  simp only [jm_stp] at hst
  have hd : decode cc pc = .ok (.anewarray n, 3) := by rw [show np - pc = 3 by omega] at hd0; exact hd0
  split at hst
  case h_2 => cases hst
  case h_1 n0 r0 =>
    split at hst
    case isTrue => cases hst
    case isFalse hg =>
    cases hst
    split at ho
    case h_2 => cases ho
    case h_1 qc hqc =>
    simp only [Bool.and_eq_true, decide_eq_true_eq] at ho
    obtain ⟨ho, hao⟩ := ho
    obtain ⟨R0, rfl, hS0⟩ := jr_S_i hS
    obtain ⟨hK1, hP, hD, hSS, hH⟩ := hI
    obtain ⟨hc1, ⟨ty0, hty, hdf⟩, hnn, hin, hini, hnm9, hln, hall⟩ := hC x qc hqc
    have hroom : cells + (h.2.1 + 1) ≤ R.cells + h.2.1 ∧ slots + (h.2.2 + n0.toNatClampNeg) ≤ R.slots + h.2.2 := hroom
    have hn0 : ¬ n0 < 0 := fun q => hg (Or.inl q)
    have hn1 : n0.toNatClampNeg ≤ 65536 := by omega
    subst hnp
    refine va_newq (C := qc.1) hx hb hown (hts _ (jr_g (hW _ (List.mem_of_getElem? ho)) rfl)) (hK.2.2.2.2.2.2.1.1 _ hao) hK1 hP hD hSS hK.1 hn0 rfl (by omega) (by omega) (by omega) hd (fun q9 cA H1 hK9 hP1 hD1 hS9 => ?_)
    refine k (ws ++ [(q9, .inl (cA, n0.toNatClampNeg, .inr (.inr (.inr (.inr (fun _ => none))))))]) _ H1 locs ls _ (cells + 1) (slots + n0.toNatClampNeg) (jr_le.app _) (fun t ht => List.mem_append_left _ ht) ⟨hK9, hP1, hD1, hS9, hH.push (fun t ht => List.mem_append_left _ ht) ⟨cA, _, rfl, by rw [hnm9]; exact List.mem_append_right _ List.mem_cons_self, _, rfl, fun _ => rfl⟩⟩ (hL.mono (jr_le.app _)) ⟨⟨(q9, .inl (cA, n0.toNatClampNeg, .inr (.inr (.inr (.inr (fun _ => none)))))), ?_, rfl⟩, hS0.mono (jr_le.app _)⟩ (by show cells + 1 + h.2.1 = cells + (h.2.1 + 1); omega) (by show slots + n0.toNatClampNeg + h.2.2 = slots + (h.2.2 + n0.toNatClampNeg); omega)
    rw [List.getElem?_append_right (by rw [hH.1]; exact Nat.le_refl _), hH.1]; simp
set_option maxHeartbeats 4000000 in
theorem jr_tableswitch {dflt lo hi : Int} {offs : Array Int} {np x y z w : Nat} {v : Value} {bs : List Bool} {q : jm_S} (hE : jr_E p c cc nL s args own nm m meth R) (hK : jr_K tx G.2.1 b G.2.2.1 G.2.2.2 sa A s) (hC : jr_cls cl G) (hW : ∀ w ∈ Wd, w ∈ lw_tbl) (he : jm_okb cl tx tb Wd own nm cc nL (pc, .tableswitch dflt lo hi offs, np, x, y, z, w, v, bs) = true) (hst : jm_stp G (pc, .tableswitch dflt lo hi offs, np, x, y, z, w, v, bs) L st h = some q)
    (hI : jr_I D cl A b sa s h H locs ws tys) (hL : jr_L b sa ws L ls nL) (hS : jr_S b sa ws st S) (hroom : cells + q.2.2.2.2.1 ≤ R.cells + h.2.1 ∧ slots + q.2.2.2.2.2 ≤ R.slots + h.2.2) (k : jr_go p l e R s m args below meth c D cl A nL b sa ws tys h cells slots Q q) : W p l e R s m args below meth c H locs cells slots Q (F0 m pc ls S) := by
  obtain ⟨hx, hb, hml, hts, hown, hnm, hRf, hRl⟩ := hE
  simp only [jm_okb, Bool.and_eq_true, decide_eq_true_eq] at he
  obtain ⟨hd0, hnp, hmk, ho⟩ := he
  simp only [jm_il] at hnp
  simp only [jm_stp] at hst
  split at hst
  case h_2 => cases hst
  case h_1 a0 r0 =>
    obtain ⟨R0, rfl, hS0⟩ := jr_S_i hS
    split at hst
    case isTrue hg =>
      unfold jm_to at hst
      split at hst
      case isFalse => cases hst
      case isTrue h0 =>
      cases hst
      exact lv_tableOut hx hb hd0 hg (Int.toNat_of_nonneg h0).symm (k.k0 hI rfl hL hS0)
    case isFalse hg =>
      split at hst
      case h_2 => cases hst
      case h_1 off ho9 =>
      unfold jm_to at hst
      split at hst
      case isFalse => cases hst
      case isTrue h0 =>
      cases hst
      exact lv_tableIn hx hb hd0 (fun q => hg (Or.inl q)) (fun q => hg (Or.inr q)) ho9 (Int.toNat_of_nonneg h0).symm (k.k0 hI rfl hL hS0)
set_option maxHeartbeats 4000000 in
theorem jr_lookupswitch {dflt : Int} {ps : Array (Int × Int)} {np x y z w : Nat} {v : Value} {bs : List Bool} {q : jm_S} (hE : jr_E p c cc nL s args own nm m meth R) (hK : jr_K tx G.2.1 b G.2.2.1 G.2.2.2 sa A s) (hC : jr_cls cl G) (hW : ∀ w ∈ Wd, w ∈ lw_tbl) (he : jm_okb cl tx tb Wd own nm cc nL (pc, .lookupswitch dflt ps, np, x, y, z, w, v, bs) = true) (hst : jm_stp G (pc, .lookupswitch dflt ps, np, x, y, z, w, v, bs) L st h = some q)
    (hI : jr_I D cl A b sa s h H locs ws tys) (hL : jr_L b sa ws L ls nL) (hS : jr_S b sa ws st S) (hroom : cells + q.2.2.2.2.1 ≤ R.cells + h.2.1 ∧ slots + q.2.2.2.2.2 ≤ R.slots + h.2.2) (k : jr_go p l e R s m args below meth c D cl A nL b sa ws tys h cells slots Q q) : W p l e R s m args below meth c H locs cells slots Q (F0 m pc ls S) := by
  obtain ⟨hx, hb, hml, hts, hown, hnm, hRf, hRl⟩ := hE
  simp only [jm_okb, Bool.and_eq_true, decide_eq_true_eq] at he
  obtain ⟨hd0, hnp, hmk, ho⟩ := he
  simp only [jm_il] at hnp
  simp only [jm_stp] at hst
  split at hst
  case h_2 => cases hst
  case h_1 a0 r0 =>
    obtain ⟨R0, rfl, hS0⟩ := jr_S_i hS
    unfold jm_to at hst
    split at hst
    case isFalse => cases hst
    case isTrue h0 =>
    cases hst
    exact lv_lookup hx hb hd0 ho rfl (Int.toNat_of_nonneg h0).symm (k.k0 hI rfl hL hS0)
set_option maxHeartbeats 4000000 in
theorem jr_ldc {n : Nat} {np x y z w : Nat} {v : Value} {bs : List Bool} {q : jm_S} (hE : jr_E p c cc nL s args own nm m meth R) (hK : jr_K tx G.2.1 b G.2.2.1 G.2.2.2 sa A s) (hC : jr_cls cl G) (hW : ∀ w ∈ Wd, w ∈ lw_tbl) (he : jm_okb cl tx tb Wd own nm cc nL (pc, .ldc n, np, x, y, z, w, v, bs) = true) (hst : jm_stp G (pc, .ldc n, np, x, y, z, w, v, bs) L st h = some q)
    (hI : jr_I D cl A b sa s h H locs ws tys) (hL : jr_L b sa ws L ls nL) (hS : jr_S b sa ws st S) (hroom : cells + q.2.2.2.2.1 ≤ R.cells + h.2.1 ∧ slots + q.2.2.2.2.2 ≤ R.slots + h.2.2) (k : jr_go p l e R s m args below meth c D cl A nL b sa ws tys h cells slots Q q) : W p l e R s m args below meth c H locs cells slots Q (F0 m pc ls S) := by
  obtain ⟨hx, hb, hml, hts, hown, hnm, hRf, hRl⟩ := hE
  simp only [jm_okb, Bool.and_eq_true, decide_eq_true_eq] at he
  obtain ⟨hd0, hnp, hmk, ho⟩ := he
  simp only [jm_il] at hnp
  simp only [jm_stp] at hst
  have hd : decode cc pc = .ok (.ldc n, 2) := by rw [show np - pc = 2 by omega] at hd0; exact hd0
  cases hst
  subst hnp
  split at ho
  case h_1 kk =>
    have ho := of_decide_eq_true ho
    exact lv_ldc hx hb hown (hts _ (jr_g (hW _ (List.mem_of_getElem? ho)) rfl)) hd (k.k0 hI rfl hL ⟨rfl, hS⟩)
  case h_2 jj =>
    split at ho
    case h_2 => cases ho
    case h_1 t ht =>
    have ho := of_decide_eq_true ho
    exact va_ldcS hx hb hown (hK.2.2.1 _ _ _ _ (hW _ (List.mem_of_getElem? ho)) ht) hd (k.k0 hI rfl hL ⟨rfl, hS⟩)
  case h_3 => cases ho
set_option maxHeartbeats 4000000 in
theorem jr_ldc_w {n : Nat} {np x y z w : Nat} {v : Value} {bs : List Bool} {q : jm_S} (hE : jr_E p c cc nL s args own nm m meth R) (hK : jr_K tx G.2.1 b G.2.2.1 G.2.2.2 sa A s) (hC : jr_cls cl G) (hW : ∀ w ∈ Wd, w ∈ lw_tbl) (he : jm_okb cl tx tb Wd own nm cc nL (pc, .ldc_w n, np, x, y, z, w, v, bs) = true) (hst : jm_stp G (pc, .ldc_w n, np, x, y, z, w, v, bs) L st h = some q)
    (hI : jr_I D cl A b sa s h H locs ws tys) (hL : jr_L b sa ws L ls nL) (hS : jr_S b sa ws st S) (hroom : cells + q.2.2.2.2.1 ≤ R.cells + h.2.1 ∧ slots + q.2.2.2.2.2 ≤ R.slots + h.2.2) (k : jr_go p l e R s m args below meth c D cl A nL b sa ws tys h cells slots Q q) : W p l e R s m args below meth c H locs cells slots Q (F0 m pc ls S) := by
  obtain ⟨hx, hb, hml, hts, hown, hnm, hRf, hRl⟩ := hE
  simp only [jm_okb, Bool.and_eq_true, decide_eq_true_eq] at he
  obtain ⟨hd0, hnp, hmk, ho⟩ := he
  simp only [jm_il] at hnp
  simp only [jm_stp] at hst
  have hd : decode cc pc = .ok (.ldc_w n, 3) := by rw [show np - pc = 3 by omega] at hd0; exact hd0
  cases hst
  subst hnp
  split at ho
  case h_1 kk =>
    have ho := of_decide_eq_true ho
    exact lv_ldcw hx hb hown (hts _ (jr_g (hW _ (List.mem_of_getElem? ho)) rfl)) hd (k.k0 hI rfl hL ⟨rfl, hS⟩)
  case h_2 jj =>
    split at ho
    case h_2 => cases ho
    case h_1 t ht =>
    have ho := of_decide_eq_true ho
    exact jr_ldcSW hx hb hown (hK.2.2.1 _ _ _ _ (hW _ (List.mem_of_getElem? ho)) ht) hd (k.k0 hI rfl hL ⟨rfl, hS⟩)
  case h_3 => cases ho
set_option maxHeartbeats 4000000 in
theorem jr_objinit {n : Nat} {np x y z w : Nat} {v : Value} {bs : List Bool} {q : jm_S} (hE : jr_E p c cc nL s args own nm m meth R) (hK : jr_K tx G.2.1 b G.2.2.1 G.2.2.2 sa A s) (hC : jr_cls cl G) (hW : ∀ w ∈ Wd, w ∈ lw_tbl) (he : jm_okb cl tx tb Wd own nm cc nL (pc, .invokespecial n, np, x, y, z, w, v, bs) = true) (hst : jm_stp G (pc, .invokespecial n, np, x, y, z, w, v, bs) L st h = some q)
    (hI : jr_I D cl A b sa s h H locs ws tys) (hL : jr_L b sa ws L ls nL) (hS : jr_S b sa ws st S) (hroom : cells + q.2.2.2.2.1 ≤ R.cells + h.2.1 ∧ slots + q.2.2.2.2.2 ≤ R.slots + h.2.2) (k : jr_go p l e R s m args below meth c D cl A nL b sa ws tys h cells slots Q q) : W p l e R s m args below meth c H locs cells slots Q (F0 m pc ls S) := by
  obtain ⟨hx, hb, hml, hts, hown, hnm, hRf, hRl⟩ := hE
  simp only [jm_okb, Bool.and_eq_true, decide_eq_true_eq] at he
  obtain ⟨hd0, hnp, hmk, ho⟩ := he
  simp only [jm_il] at hnp
  simp only [jm_stp] at hst
  have hd : decode cc pc = .ok (.invokespecial n, 3) := by rw [show np - pc = 3 by omega] at hd0; exact hd0
  split at hst
  case h_2 => cases hst
  case h_1 a r0 =>
    split at hst
    case isFalse => cases hst
    case isTrue hg =>
    cases hst
    obtain ⟨rfl, hlt⟩ := hg
    rw [if_pos rfl] at ho
    have ho := of_decide_eq_true ho
    obtain ⟨w0, R0, hw0, rfl, hS0⟩ := jr_S_r hS
    have hlt := of_decide_eq_true hlt
    have hw := jr_S_w hS0
    subst hnp
    exact W.objInit hx hb hown (hts _ (jr_g (hW _ (List.mem_of_getElem? ho)) rfl)) (hts _ jr_oi) (hts _ jr_oc) rfl (by rw [hml]; exact hL.2.1) rfl hd (by omega) (by show 2 * 0 + _ + 12 ≤ _; omega) (k.k0 hI rfl hL hS0)
set_option maxHeartbeats 4000000 in
theorem jr_math {n : Nat} {np x y z w : Nat} {v : Value} {bs : List Bool} {q : jm_S} (hE : jr_E p c cc nL s args own nm m meth R) (hK : jr_K tx G.2.1 b G.2.2.1 G.2.2.2 sa A s) (hC : jr_cls cl G) (hW : ∀ w ∈ Wd, w ∈ lw_tbl) (he : jm_okb cl tx tb Wd own nm cc nL (pc, .invokestatic n, np, x, y, z, w, v, bs) = true) (hst : jm_stp G (pc, .invokestatic n, np, x, y, z, w, v, bs) L st h = some q)
    (hI : jr_I D cl A b sa s h H locs ws tys) (hL : jr_L b sa ws L ls nL) (hS : jr_S b sa ws st S) (hroom : cells + q.2.2.2.2.1 ≤ R.cells + h.2.1 ∧ slots + q.2.2.2.2.2 ≤ R.slots + h.2.2) (k : jr_go p l e R s m args below meth c D cl A nL b sa ws tys h cells slots Q q) : W p l e R s m args below meth c H locs cells slots Q (F0 m pc ls S) := by
  obtain ⟨hx, hb, hml, hts, hown, hnm, hRf, hRl⟩ := hE
  simp only [jm_okb, Bool.and_eq_true, decide_eq_true_eq] at he
  obtain ⟨hd0, hnp, hmk, ho⟩ := he
  simp only [jm_il] at hnp
  simp only [jm_stp] at hst
  have hd : decode cc pc = .ok (.invokestatic n, 3) := by rw [show np - pc = 3 by omega] at hd0; exact hd0
  split at hst
  case h_1 b0 a0 r0 =>
    obtain ⟨R1, rfl, hS1⟩ := jr_S_i hS
    obtain ⟨R0, rfl, hS0⟩ := jr_S_i hS1
    have hw := jr_S_w hS0
    subst hnp
    split at hst
    case isTrue hg =>
      cases hst
      obtain ⟨rfl, hlt⟩ := hg
      have hlt := of_decide_eq_true hlt
      rw [if_pos rfl] at ho
      have ho := of_decide_eq_true ho
      exact va_mmax hx hb (by rw [hml]; exact hL.2.1.symm) hown (hts _ (jr_g (hW _ (List.mem_of_getElem? ho)) rfl)) (hts _ jr_max_s) (hts _ jr_ms) (hts _ jr_max_c) (by omega) (by omega) (by have := hroom.1; dsimp only at this; omega) (by have := hroom.2; dsimp only at this; omega) hd (k.k0 hI rfl hL ⟨rfl, hS0⟩)
    case isFalse hg0 =>
      split at hst
      case isFalse => cases hst
      case isTrue hg =>
      cases hst
      obtain ⟨rfl, hlt⟩ := hg
      have hlt := of_decide_eq_true hlt
      rw [if_neg (by decide), if_pos rfl] at ho
      have ho := of_decide_eq_true ho
      exact va_mmin hx hb (by rw [hml]; exact hL.2.1.symm) hown (hts _ (jr_g (hW _ (List.mem_of_getElem? ho)) rfl)) (hts _ jr_min_s) (hts _ jr_ms) (hts _ jr_min_c) (by omega) (by omega) (by have := hroom.1; dsimp only at this; omega) (by have := hroom.2; dsimp only at this; omega) hd (k.k0 hI rfl hL ⟨rfl, hS0⟩)
  case h_2 b0 a0 r0 =>
    obtain ⟨R1, rfl, hS1⟩ := jr_S_l hS
    obtain ⟨R0, rfl, hS0⟩ := jr_S_l hS1
    have hw := jr_S_w hS0
    subst hnp
    split at hst
    case isTrue hg =>
      cases hst
      obtain ⟨rfl, hlt⟩ := hg
      have hlt := of_decide_eq_true hlt
      rw [if_neg (by decide), if_neg (by decide), if_pos rfl] at ho
      have ho := of_decide_eq_true ho
      exact va_mmax_long hx hb (by rw [hml]; exact hL.2.1.symm) hown (hts _ (jr_g (hW _ (List.mem_of_getElem? ho)) rfl)) (hts _ jr_maxl_s) (hts _ jr_ms) (hts _ jr_maxl_c) (by omega) (by omega) (by have := hroom.1; dsimp only at this; omega) (by have := hroom.2; dsimp only at this; omega) hd (k.k0 hI rfl hL ⟨rfl, hS0⟩)
    case isFalse hg0 =>
      split at hst
      case isFalse => cases hst
      case isTrue hg =>
      cases hst
      obtain ⟨rfl, hlt⟩ := hg
      have hlt := of_decide_eq_true hlt
      rw [if_neg (by decide), if_neg (by decide), if_neg (by decide), if_pos rfl] at ho
      have ho := of_decide_eq_true ho
      exact va_mmin_long hx hb (by rw [hml]; exact hL.2.1.symm) hown (hts _ (jr_g (hW _ (List.mem_of_getElem? ho)) rfl)) (hts _ jr_minl_s) (hts _ jr_ms) (hts _ jr_minl_c) (by omega) (by omega) (by have := hroom.1; dsimp only at this; omega) (by have := hroom.2; dsimp only at this; omega) hd (k.k0 hI rfl hL ⟨rfl, hS0⟩)
  case h_3 => cases hst
end JR
end
section
/-! an array of arrays is made -/
theorem jr_H.multi {b : Nat} {sa : Nat → Nat} {ws : va_W} {tys tys' : List (ClassId × FieldType)} {h : jm_H} (g : jr_H b sa ws tys h) {q N : Nat} {r : Nat → Nat} {f : Nat → va_E} {cA cy : ClassId} {ty : FieldType} {x : vp_A} {kk : Nat × Nat} (gt : ∀ q ∈ tys, q ∈ tys') (h1 : (cA, .array ty) ∈ tys') (h2 : (cy, ty) ∈ tys') (hx : ∀ ws9, jr_A ws9 x.2 x.2) :
    jr_H b sa ((ws ++ [(q, .inl (cA, N, .inr (.inr (.inr (.inr (fun i => if i < N then some (r i) else none))))))]) ++ va_pl ([] ++ (List.range N).map r) (vr_up f ((List.range N).map r) (.inl (cy, x)))) tys'
      (h.1 ++ [.inr (.array ty, (N, .inr (.inr (.inr (.inr fun i => if i < N then some (h.1.length + 1 + i) else none)))))] ++ List.replicate N (.inr (ty, x)), kk) := by
  obtain ⟨g1, g2⟩ := g
  have row : ∀ i, i < N → ((ws ++ [(q, (Sum.inl (cA, N, .inr (.inr (.inr (.inr (fun i => if i < N then some (r i) else none))))) : va_E))]) ++ va_pl ([] ++ (List.range N).map r) (vr_up f ((List.range N).map r) (.inl (cy, x))))[h.1.length + 1 + i]? = some (r i, .inl (cy, x)) := by
    intro i hi
    rw [List.getElem?_append_right (by simp [g1])]
    have e : h.1.length + 1 + i - (ws ++ [(q, (Sum.inl (cA, N, .inr (.inr (.inr (.inr (fun i => if i < N then some (r i) else none))))) : va_E))]).length = i := by simp [g1]
    rw [e]
    simp only [va_pl, List.nil_append, List.map_map, List.getElem?_map, List.getElem?_range hi, Option.map_some, Function.comp_apply]
    rw [vr_up_in (List.mem_map.mpr ⟨i, List.mem_range.mpr hi, rfl⟩)]
  have le : jr_le ws ((ws ++ [(q, (Sum.inl (cA, N, .inr (.inr (.inr (.inr (fun i => if i < N then some (r i) else none))))) : va_E))]) ++ va_pl ([] ++ (List.range N).map r) (vr_up f ((List.range N).map r) (.inl (cy, x)))) := (jr_le.app _).tr (jr_le.app _)
  refine ⟨by simp [va_pl, g1], fun k c hk => ?_⟩
  have hk : (h.1 ++ [.inr (.array ty, (N, .inr (.inr (.inr (.inr fun i => if i < N then some (h.1.length + 1 + i) else none)))))] ++ List.replicate N (.inr (ty, x)))[k]? = some c := hk
  by_cases e1 : k < h.1.length
  · rw [List.getElem?_append_left (by simp; omega), List.getElem?_append_left e1] at hk
    obtain ⟨w, q1, q2⟩ := g2 k c hk
    obtain ⟨w', q3, q4⟩ := le k w q1
    refine ⟨w, ?_, q2.mono le gt⟩
    rw [List.getElem?_append_left (by simp [g1]; omega), List.getElem?_append_left (by rw [g1]; exact e1)]
    exact q1
  · by_cases e2 : k = h.1.length
    · subst e2
      rw [List.getElem?_append_left (by simp), List.getElem?_append_right (Nat.le_refl _)] at hk
      simp at hk
      subst hk
      refine ⟨_, by rw [List.getElem?_append_left (by simp [g1]), List.getElem?_append_right (by rw [g1]; exact Nat.le_refl _), g1]; simp; rfl, cA, _, rfl, h1, _, rfl, fun i => ?_⟩
      by_cases hi : i < N
      · simp only [if_pos hi]
        exact ⟨_, row i hi, rfl⟩
      · simp only [if_neg hi]
        rfl
    · rw [List.getElem?_append_right (by simp; omega)] at hk
      have hz := (List.getElem?_eq_some_iff.mp hk).1
      simp at hz
      have e3 : k = h.1.length + 1 + (k - (h.1.length + 1)) := by omega
      rw [List.getElem?_replicate] at hk
      rw [if_pos (by simp; omega)] at hk
      cases hk
      refine ⟨_, by rw [e3]; exact row _ (by omega), cy, _, rfl, h2, hx _⟩
section JR
variable {p : Program} {l : Launch} {e : Env} {R : Room} {s : State} {m : MethodId} {args : Array Value} {below : List Frame} {meth : Method} {c : Code} {H : Heap} {locs : List Loc} {cells slots : Nat} {Q : State → Prop}
variable {cc : ByteArray} {pc : Nat} {ls : Array Slot} {D : va_G} {cl : List vw_C} {A : Nat → Prop} {tys : List (ClassId × FieldType)} {ws : va_W}
variable {G : jm_G} {tx : List String} {tb : List jm_M} {Wd : List Cond} {own nm : String} {nL b Ln : Nat} {xs : Nat → Int32} {sa : Nat → Nat} {L : jm_L} {st S : List Value} {h : jm_H}
set_option maxHeartbeats 4000000 in
theorem jr_multianewarray {n n2 : Nat} {np x y z w : Nat} {v : Value} {bs : List Bool} {q : jm_S} (hE : jr_E p c cc nL s args own nm m meth R) (hK : jr_K tx G.2.1 b G.2.2.1 G.2.2.2 sa A s) (hC : jr_cls cl G) (hW : ∀ w ∈ Wd, w ∈ lw_tbl) (he : jm_okb cl tx tb Wd own nm cc nL (pc, .multianewarray n n2, np, x, y, z, w, v, bs) = true) (hst : jm_stp G (pc, .multianewarray n n2, np, x, y, z, w, v, bs) L st h = some q)
    (hI : jr_I D cl A b sa s h H locs ws tys) (hL : jr_L b sa ws L ls nL) (hS : jr_S b sa ws st S) (hroom : cells + q.2.2.2.2.1 ≤ R.cells + h.2.1 ∧ slots + q.2.2.2.2.2 ≤ R.slots + h.2.2) (k : jr_go p l e R s m args below meth c D cl A nL b sa ws tys h cells slots Q q) : W p l e R s m args below meth c H locs cells slots Q (F0 m pc ls S) := by
  obtain ⟨hx, hb, hml, hts, hown, hnm, hRf, hRl⟩ := hE
  simp only [jm_okb, Bool.and_eq_true, decide_eq_true_eq] at he
  obtain ⟨hd0, hnp, hmk, ho⟩ := he
  simp only [jm_il] at hnp
  simp only [jm_stp] at hst
  have hd : decode cc pc = .ok (.multianewarray n n2, 4) := by rw [show np - pc = 4 by omega] at hd0; exact hd0
  split at hst
  case h_2 => cases hst
  case h_1 k0 n0 r0 =>
    split at hst
    case isTrue => cases hst
    case isFalse hg =>
    obtain ⟨rfl, ho2⟩ := ho
    obtain ⟨R1, rfl, hS1⟩ := jr_S_i hS
    obtain ⟨R0, rfl, hS0⟩ := jr_S_i hS1
    obtain ⟨hK1, hP, hD, hSS, hH⟩ := hI
    have hn0 : ¬ n0 < 0 := fun q => hg (Or.inl q)
    have hk0 : ¬ k0 < 0 := fun q => hg (Or.inr (Or.inl q))
    have hn1 : n0.toNatClampNeg ≤ 65536 := by omega
    have hk1 : k0.toNatClampNeg ≤ 65536 := by omega
    have hr1 : q.2.2.2.2.1 = h.2.1 + 1 + n0.toNatClampNeg ∧ q.2.2.2.2.2 = h.2.2 + n0.toNatClampNeg + n0.toNatClampNeg * k0.toNatClampNeg := by cases hst; exact ⟨rfl, rfl⟩
    rw [hr1.1, hr1.2] at hroom
    subst hnp
    by_cases hz : z = 0
    all_goals simp only [hz, ↓reduceIte] at hst ho2
    all_goals cases hst
    · have ho := of_decide_eq_true (show decide (Wd[w]? = some (Cond.classLink own n "[[I")) = true from ho2)
      obtain ⟨cy, ky, comp, fy, ky1, ky2⟩ := Cond.arrayClass_spec (hts _ jr_arr_int)
      refine va_mna (X := ws) (L := []) (f := fun _ => .inr (0, [])) (ty := .int) (cy := cy) (z := (k0.toNatClampNeg, .inl fun _ => 0)) hx hb hown (hts _ (jr_g (hW _ (List.mem_of_getElem? ho)) rfl)) hK.2.2.2.2.2.2.1.2.1 (hts _ jr_arr_int) fy hK1 (by simpa [va_pl] using hP) (by simpa [va_pl] using hD) hSS hK.1 hn0 hk0 rfl rfl (by omega) (by show _ * 4 ≤ _; omega) (by omega) rfl rfl (by omega) (by omega) (fun c9 => by rw [vp_cell_i]; exact (arrV_new _ _ _)) hd (fun q9 r9 cA H1 _ _ hK9 hP1 hD1 hS9 => ?_)
      have hK8 : va_K D cl ((tys ++ [(cA, .array .int)]) ++ [(cy, .int)]) s := hK9.app ⟨hK9.1, fun k9 x9 hx9 => by
        cases k9 with
        | zero => cases hx9; exact ⟨fun n9 z9 => ⟨fun k h => (by cases h), ky, ky1, comp, ky2⟩, fy⟩
        | succ k9 => simp at hx9⟩
      refine k _ _ H1 locs ls _ (cells + 1 + n0.toNatClampNeg) (slots + n0.toNatClampNeg + n0.toNatClampNeg * k0.toNatClampNeg) ((jr_le.app _).tr (jr_le.app _)) (fun t ht => List.mem_append_left _ (List.mem_append_left _ ht)) ⟨hK8, hP1, hD1, hS9, ?_⟩ (hL.mono ((jr_le.app _).tr (jr_le.app _))) ⟨⟨(q9, .inl (cA, n0.toNatClampNeg, .inr (.inr (.inr (.inr (fun i => if i < n0.toNatClampNeg then some (r9 i) else none)))))), ?_, rfl⟩, hS0.mono ((jr_le.app _).tr (jr_le.app _))⟩ ?_ ?_
      · exact hH.multi (ty := .int) (x := (k0.toNatClampNeg, .inl fun _ => 0)) (fun t ht => List.mem_append_left _ (List.mem_append_left _ ht)) (List.mem_append_left _ (List.mem_append_right _ List.mem_cons_self)) (List.mem_append_right _ List.mem_cons_self) (fun _ => rfl)
      · rw [List.getElem?_append_left (by simp [hH.1]), List.getElem?_append_right (by rw [hH.1]; exact Nat.le_refl _), hH.1]; simp
      · show cells + 1 + n0.toNatClampNeg + h.2.1 = cells + (h.2.1 + 1 + n0.toNatClampNeg); omega
      · show slots + n0.toNatClampNeg + n0.toNatClampNeg * k0.toNatClampNeg + h.2.2 = slots + (h.2.2 + n0.toNatClampNeg + n0.toNatClampNeg * k0.toNatClampNeg); omega
    · have ho := of_decide_eq_true (show decide (Wd[w]? = some (Cond.classLink own n "[[J")) = true from ho2)
      obtain ⟨cy, ky, comp, fy, ky1, ky2⟩ := Cond.arrayClass_spec (hts _ jr_arr_long)
      refine va_mna (X := ws) (L := []) (f := fun _ => .inr (0, [])) (ty := .long) (cy := cy) (z := (k0.toNatClampNeg, .inr (.inl fun _ => 0))) hx hb hown (hts _ (jr_g (hW _ (List.mem_of_getElem? ho)) rfl)) hK.2.2.2.2.2.2.1.2.2 (hts _ jr_arr_long) fy hK1 (by simpa [va_pl] using hP) (by simpa [va_pl] using hD) hSS hK.1 hn0 hk0 rfl rfl (by omega) (by show _ * 8 ≤ _; omega) (by omega) rfl rfl (by omega) (by omega) (fun c9 => by rw [vp_cell_l]; exact (arrV_new _ _ _)) hd (fun q9 r9 cA H1 _ _ hK9 hP1 hD1 hS9 => ?_)
      have hK8 : va_K D cl ((tys ++ [(cA, .array .long)]) ++ [(cy, .long)]) s := hK9.app ⟨hK9.1, fun k9 x9 hx9 => by
        cases k9 with
        | zero => cases hx9; exact ⟨fun n9 z9 => ⟨fun k h => (by cases h), ky, ky1, comp, ky2⟩, fy⟩
        | succ k9 => simp at hx9⟩
      refine k _ _ H1 locs ls _ (cells + 1 + n0.toNatClampNeg) (slots + n0.toNatClampNeg + n0.toNatClampNeg * k0.toNatClampNeg) ((jr_le.app _).tr (jr_le.app _)) (fun t ht => List.mem_append_left _ (List.mem_append_left _ ht)) ⟨hK8, hP1, hD1, hS9, ?_⟩ (hL.mono ((jr_le.app _).tr (jr_le.app _))) ⟨⟨(q9, .inl (cA, n0.toNatClampNeg, .inr (.inr (.inr (.inr (fun i => if i < n0.toNatClampNeg then some (r9 i) else none)))))), ?_, rfl⟩, hS0.mono ((jr_le.app _).tr (jr_le.app _))⟩ ?_ ?_
      · exact hH.multi (ty := .long) (x := (k0.toNatClampNeg, .inr (.inl fun _ => 0))) (fun t ht => List.mem_append_left _ (List.mem_append_left _ ht)) (List.mem_append_left _ (List.mem_append_right _ List.mem_cons_self)) (List.mem_append_right _ List.mem_cons_self) (fun _ => rfl)
      · rw [List.getElem?_append_left (by simp [hH.1]), List.getElem?_append_right (by rw [hH.1]; exact Nat.le_refl _), hH.1]; simp
      · show cells + 1 + n0.toNatClampNeg + h.2.1 = cells + (h.2.1 + 1 + n0.toNatClampNeg); omega
      · show slots + n0.toNatClampNeg + n0.toNatClampNeg * k0.toNatClampNeg + h.2.2 = slots + (h.2.2 + n0.toNatClampNeg + n0.toNatClampNeg * k0.toNatClampNeg); omega
end JR
end
section
/-! any instruction of the abstract machine -/
section JR
variable {p : Program} {l : Launch} {e : Env} {R : Room} {s : State} {m : MethodId} {args : Array Value} {below : List Frame} {meth : Method} {c : Code} {H : Heap} {locs : List Loc} {cells slots : Nat} {Q : State → Prop}
variable {cc : ByteArray} {pc : Nat} {ls : Array Slot} {D : va_G} {cl : List vw_C} {A : Nat → Prop} {tys : List (ClassId × FieldType)} {ws : va_W}
variable {G : jm_G} {tx : List String} {tb : List jm_M} {Wd : List Cond} {own nm : String} {nL b Ln : Nat} {xs : Nat → Int32} {sa : Nat → Nat} {L : jm_L} {st S : List Value} {h : jm_H}
set_option maxHeartbeats 4000000 in
theorem jr_step {ee : jm_I} {q : jm_S} (hE : jr_E p c cc nL s args own nm m meth R) (hK : jr_K tx G.2.1 b G.2.2.1 G.2.2.2 sa A s) (hC : jr_cls cl G) (hcl50 : cl[50]? = none) (hk : jm_kind ee = 0) (hW : ∀ w ∈ Wd, w ∈ lw_tbl) (he : jm_okb cl tx tb Wd own nm cc nL ee = true) (hst : jm_stp G ee L st h = some q)
    (hI : jr_I D cl A b sa s h H locs ws tys) (hL : jr_L b sa ws L ls nL) (hS : jr_S b sa ws st S) (hroom : cells + q.2.2.2.2.1 ≤ R.cells + h.2.1 ∧ slots + q.2.2.2.2.2 ≤ R.slots + h.2.2) (k : jr_go p l e R s m args below meth c D cl A nL b sa ws tys h cells slots Q q) : W p l e R s m args below meth c H locs cells slots Q (F0 m ee.1 ls S) := by
  obtain ⟨pc, i, np, x, y, z, w, v, bs⟩ := ee
  cases i
  case aaload => exact jr_aaload hE hK hC hW he hst hI hL hS hroom k
  case aastore => exact jr_aastore hE hK hC hW he hst hI hL hS hroom k
  case arraylength => exact jr_arraylength hE hK hC hW he hst hI hL hS hroom k
  case baload => exact jr_baload hE hK hC hW he hst hI hL hS hroom k
  case bastore => exact jr_bastore hE hK hC hW he hst hI hL hS hroom k
  case dup => exact jr_dup hE hK hC hW he hst hI hL hS hroom k
  case dup2 => exact jr_dup2 hE hK hC hW he hst hI hL hS hroom k
  case i2b => exact jr_i2b hE hK hC hW he hst hI hL hS hroom k
  case i2c => exact jr_i2c hE hK hC hW he hst hI hL hS hroom k
  case i2l => exact jr_i2l hE hK hC hW he hst hI hL hS hroom k
  case iadd => exact jr_iadd hE hK hC hW he hst hI hL hS hroom k
  case iaload => exact jr_iaload hE hK hC hW he hst hI hL hS hroom k
  case iand => exact jr_iand hE hK hC hW he hst hI hL hS hroom k
  case iastore => exact jr_iastore hE hK hC hW he hst hI hL hS hroom k
  case idiv => exact jr_idiv hE hK hC hW he hst hI hL hS hroom k
  case imul => exact jr_imul hE hK hC hW he hst hI hL hS hroom k
  case ior => exact jr_ior hE hK hC hW he hst hI hL hS hroom k
  case irem => exact jr_irem hE hK hC hW he hst hI hL hS hroom k
  case ishl => exact jr_ishl hE hK hC hW he hst hI hL hS hroom k
  case ishr => exact jr_ishr hE hK hC hW he hst hI hL hS hroom k
  case isub => exact jr_isub hE hK hC hW he hst hI hL hS hroom k
  case iushr => exact jr_iushr hE hK hC hW he hst hI hL hS hroom k
  case ladd => exact jr_ladd hE hK hC hW he hst hI hL hS hroom k
  case laload => exact jr_laload hE hK hC hW he hst hI hL hS hroom k
  case lastore => exact jr_lastore hE hK hC hW he hst hI hL hS hroom k
  case lcmp => exact jr_lcmp hE hK hC hW he hst hI hL hS hroom k
  case ldiv => exact jr_ldiv hE hK hC hW he hst hI hL hS hroom k
  case lmul => exact jr_lmul hE hK hC hW he hst hI hL hS hroom k
  case lrem => exact jr_lrem hE hK hC hW he hst hI hL hS hroom k
  case lsub => exact jr_lsub hE hK hC hW he hst hI hL hS hroom k
  case pop => exact jr_pop hE hK hC hW he hst hI hL hS hroom k
  case aload => exact jr_aload hE hK hC hW he hst hI hL hS hroom k
  case aload_n => exact jr_aload_n hE hK hC hW he hst hI hL hS hroom k
  case astore => exact jr_astore hE hK hC hW he hst hI hL hS hroom k
  case astore_n => exact jr_astore_n hE hK hC hW he hst hI hL hS hroom k
  case bipush => exact jr_bipush hE hK hC hW he hst hI hL hS hroom k
  case iconst => exact jr_iconst hE hK hC hW he hst hI hL hS hroom k
  case iinc => exact jr_iinc hE hK hC hW he hst hI hL hS hroom k
  case iload => exact jr_iload hE hK hC hW he hst hI hL hS hroom k
  case iload_n => exact jr_iload_n hE hK hC hW he hst hI hL hS hroom k
  case istore => exact jr_istore hE hK hC hW he hst hI hL hS hroom k
  case istore_n => exact jr_istore_n hE hK hC hW he hst hI hL hS hroom k
  case lconst => exact jr_lconst hE hK hC hW he hst hI hL hS hroom k
  case ldc => exact jr_ldc hE hK hC hW he hst hI hL hS hroom k
  case ldc_w => exact jr_ldc_w hE hK hC hW he hst hI hL hS hroom k
  case ldc2_w => exact jr_ldc2_w hE hK hC hW he hst hI hL hS hroom k
  case lload => exact jr_lload hE hK hC hW he hst hI hL hS hroom k
  case lload_n => exact jr_lload_n hE hK hC hW he hst hI hL hS hroom k
  case lstore => exact jr_lstore hE hK hC hW he hst hI hL hS hroom k
  case lstore_n => exact jr_lstore_n hE hK hC hW he hst hI hL hS hroom k
  case sipush => exact jr_sipush hE hK hC hW he hst hI hL hS hroom k
  case goto => exact jr_goto hE hK hC hW he hst hI hL hS hroom k
  case ifnonnull => exact jr_ifnonnull hE hK hC hW he hst hI hL hS hroom k
  case getstatic => exact jr_getstatic hE hK hC hW he hst hI hL hS hroom k
  case putfield => exact jr_putfield hE hK hC hW he hst hI hL hS hroom k
  case tableswitch => exact jr_tableswitch hE hK hC hW he hst hI hL hS hroom k
  case lookupswitch => exact jr_lookupswitch hE hK hC hW he hst hI hL hS hroom k
  case multianewarray => exact jr_multianewarray hE hK hC hW he hst hI hL hS hroom k
  case getfield => exact jr_getfield hE hK hC hcl50 hW he hst hI hL hS hroom k
  case new => exact jr_new hE hK hC (by intro h20; simp [jm_kind, h20] at hk) hW he hst hI hL hS hroom k
  case anewarray => exact jr_anewarray hE hK hC hW he hst hI hL hS hroom k
  case invokespecial => exact jr_objinit hE hK hC hW he hst hI hL hS hroom k
  case invokestatic => exact jr_math hE hK hC hW he hst hI hL hS hroom k
  case ifCond cnd off => cases cnd <;> first | exact jr_if_eq hE hK hC hW he hst hI hL hS hroom k | exact jr_if_ne hE hK hC hW he hst hI hL hS hroom k | exact jr_if_lt hE hK hC hW he hst hI hL hS hroom k | exact jr_if_ge hE hK hC hW he hst hI hL hS hroom k | exact jr_if_gt hE hK hC hW he hst hI hL hS hroom k | exact jr_if_le hE hK hC hW he hst hI hL hS hroom k
  case if_icmp cnd off => cases cnd <;> first | exact jr_icmp_eq hE hK hC hW he hst hI hL hS hroom k | exact jr_icmp_ne hE hK hC hW he hst hI hL hS hroom k | exact jr_icmp_lt hE hK hC hW he hst hI hL hS hroom k | exact jr_icmp_ge hE hK hC hW he hst hI hL hS hroom k | exact jr_icmp_gt hE hK hC hW he hst hI hL hS hroom k | exact jr_icmp_le hE hK hC hW he hst hI hL hS hroom k
  case newarray t => cases t <;> first | exact jr_newarray_int hE hK hC hW he hst hI hL hS hroom k | exact jr_newarray_byte hE hK hC hW he hst hI hL hS hroom k | exact jr_newarray_long hE hK hC hW he hst hI hL hS hroom k | (simp [jm_stp] at hst; done)
  all_goals (simp [jm_stp] at hst; done)
end JR
end
section
/-! the run only makes; what a method's start knows goes on to its callees -/
theorem jm_put_keep {h h' : jm_H} {a ci j : Nat} {v : Value} (e : jm_put h a ci j v = some h') : h'.2 = h.2 := by
  obtain ⟨fs, -, -, rfl⟩ := jm_put_inv e
  rfl
theorem jm_astI_keep {h h' : jm_H} {t : FieldType} {a : Nat} {i x : Int32} (e : jm_astI h t a i x = some h') : h'.2 = h.2 := by
  unfold jm_astI at e
  split at e
  · split at e <;> cases e
    rfl
  · cases e
theorem jm_astL_keep {h h' : jm_H} {a : Nat} {i : Int32} {x : Int64} (e : jm_astL h a i x = some h') : h'.2 = h.2 := by
  unfold jm_astL at e
  split at e
  · split at e <;> cases e
    rfl
  · cases e
theorem jm_astR_keep {h h' : jm_H} {cn : String} {ci a v : Nat} {i : Int32} (e : jm_astR h cn ci a i v = some h') : h'.2 = h.2 := by
  unfold jm_astR at e
  split at e
  · split at e <;> cases e
    rfl
  · cases e
set_option maxHeartbeats 4000000 in
theorem jm_stp_mono {G : jm_G} {e : jm_I} {L : jm_L} {st : List Value} {h : jm_H} {q : jm_S} (hst : jm_stp G e L st h = some q) : h.2.1 ≤ q.2.2.2.2.1 ∧ h.2.2 ≤ q.2.2.2.2.2 := by
  obtain ⟨pc, i, np, x, y, z, w, v, bs⟩ := e
  cases i
  case ifCond c9 o9 => cases c9 <;> (simp only [jm_stp, jm_if1] at hst; split at hst <;> first | (cases hst; done) | (split at hst <;> cases hst <;> exact ⟨Nat.le_refl _, Nat.le_refl _⟩))
  case if_icmp c9 o9 => cases c9 <;> (simp only [jm_stp, jm_if2] at hst; split at hst <;> first | (cases hst; done) | (split at hst <;> cases hst <;> exact ⟨Nat.le_refl _, Nat.le_refl _⟩))
  case newarray t9 => cases t9 <;> first | (simp [jm_stp] at hst; done) | (simp only [jm_stp] at hst; split at hst <;> first | (cases hst; done) | (split at hst <;> cases hst; exact ⟨Nat.le_succ _, Nat.le_add_right _ _⟩))
  all_goals try (simp only [jm_stp, jm_stI, jm_stL, jm_stA, jm_to] at hst)
  all_goals (repeat' split at hst)
  all_goals first
    | (cases hst; done)
    | (cases hst; exact ⟨Nat.le_refl _, Nat.le_refl _⟩)
    | (obtain ⟨u, h1, rfl⟩ := Option.map_eq_some_iff.mp hst; exact ⟨Nat.le_refl _, Nat.le_refl _⟩)
    | (obtain ⟨u, h1, rfl⟩ := Option.map_eq_some_iff.mp hst; have e9 := jm_put_keep h1; exact ⟨by show _ ≤ u.2.1; rw [e9]; exact Nat.le_refl _, by show _ ≤ u.2.2; rw [e9]; exact Nat.le_refl _⟩)
    | (obtain ⟨u, h1, rfl⟩ := Option.map_eq_some_iff.mp hst; have e9 := jm_astI_keep h1; exact ⟨by show _ ≤ u.2.1; rw [e9]; exact Nat.le_refl _, by show _ ≤ u.2.2; rw [e9]; exact Nat.le_refl _⟩)
    | (obtain ⟨u, h1, rfl⟩ := Option.map_eq_some_iff.mp hst; have e9 := jm_astL_keep h1; exact ⟨by show _ ≤ u.2.1; rw [e9]; exact Nat.le_refl _, by show _ ≤ u.2.2; rw [e9]; exact Nat.le_refl _⟩)
    | (obtain ⟨u, h1, rfl⟩ := Option.map_eq_some_iff.mp hst; have e9 := jm_astR_keep h1; exact ⟨by show _ ≤ u.2.1; rw [e9]; exact Nat.le_refl _, by show _ ≤ u.2.2; rw [e9]; exact Nat.le_refl _⟩)
    | (cases hst; exact ⟨by show h.2.1 ≤ h.2.1 + 1; omega, by show h.2.2 ≤ h.2.2 + _; omega⟩)
    | (cases hst; exact ⟨by show h.2.1 ≤ h.2.1 + 1 + _; omega, by show h.2.2 ≤ h.2.2 + _ + _; omega⟩)
theorem jr_Ca.moved {E T : String} {u U : State} (hvm : u.vm.Alike U.vm) (h : jr_Ca E T u) : jr_Ca E T U := by
  obtain ⟨c, t, h1, h2, h3⟩ := h
  exact ⟨c, t, by rw [hvm.findClass]; exact h1, by rw [hvm.findClass]; exact h2, by rw [hvm.assignable]; exact h3⟩
theorem jr_Ca.use {E T : String} {args : Array Value} {u : State} (h : jr_Ca E T u) : (Cond.castable E T).before args u = true := by
  obtain ⟨c, t, h1, h2, h3⟩ := h
  simp [Cond.before, Cond.holds, Cond.value, h1, h2, h3]
theorem jr_Ca.of {E T : String} {args : Array Value} {u : State} (h : (Cond.castable E T).before args u = true) : jr_Ca E T u := by
  obtain ⟨c3, c4, hc3, hc4, hasg⟩ := Cond.castable_spec h
  exact ⟨c3, c4, hc3, hc4, hasg⟩
theorem jr_over_spec {t : FieldType} {u : State} (h : va_AOA t u) : ∃ (comp c : ClassId) (k : Class), u.vm.findClass (FieldType.array t).toString = some comp ∧ (u.vm.classes.findIdx? fun (x : Class) => match x.kind with | .array component _ => component == comp | _ => false) = some c ∧ u.vm.classes[c]? = some k ∧ k.kind = .array comp (.array t) ∧ u.vm.findClass ("[" ++ (FieldType.array t).toString) = some c := by
  simp only [va_AOA, Cond.before, Cond.holds, Cond.value, beq_iff_eq] at h
  cases hc : u.vm.findClass (FieldType.array t).toString with
  | none => simp [hc] at h
  | some comp =>
    simp only [hc, Option.bind_some, Option.bind_eq_some_iff, Option.map_eq_some_iff] at h
    obtain ⟨c, hi, k, hk, hb⟩ := h
    obtain ⟨hlt, hp, -⟩ := Array.findIdx?_eq_some_iff_getElem.mp hi
    have hkk : u.vm.classes[c] = k := (Array.getElem?_eq_some_iff.mp hk).2
    rw [hkk] at hp
    cases hkind : k.kind with
    | array component ty =>
      rw [hkind] at hb hp
      simp at hb hp
      exact ⟨comp, c, k, rfl, hi, hk, by rw [hkind, hp, hb.1], hb.2⟩
    | _ => rw [hkind] at hb; simp at hb
theorem va_AOA.moved {t : FieldType} {u U : State} (hvm : u.vm.Alike U.vm) (h : va_AOA t u) : va_AOA t U := by
  obtain ⟨comp, c, k, h1, h2, h3, h4, h5⟩ := jr_over_spec h
  obtain ⟨k', hk', he⟩ := hvm.2.2 _ _ h3
  have hi : (U.vm.classes.findIdx? fun (x : Class) => match x.kind with | .array component _ => component == comp | _ => false) = some c := by
    have e1 := va_idx_bare U.vm comp
    have e2 := va_idx_bare u.vm comp
    have e3 : U.vm.bare = u.vm.bare := by first | exact hvm.bare_eq | exact hvm.bare_eq.symm
    rw [e3] at e1
    exact (e1.symm.trans e2).trans h2
  have hkind : k'.kind = .array comp (.array t) := by rw [he]; exact h4
  have f1 : U.vm.findClass (FieldType.array t).toString = some comp := by rw [hvm.findClass]; exact h1
  have f2 : U.vm.findClass ("[" ++ (FieldType.array t).toString) = some c := by rw [hvm.findClass]; exact h5
  unfold va_AOA Cond.before Cond.holds
  simp only [Cond.value]
  rw [f1, Option.bind_some]
  refine (congrArg (fun o : Option Nat => (o.bind (fun c => (U.vm.classes[c]?).map fun (k : Class) => match k.kind with | .array _ ty => decide (ty = FieldType.array t) && decide (U.vm.findClass ("[" ++ (FieldType.array t).toString) = some c) | _ => false) == some true)) hi).trans ?_
  simp [hk', hkind, f2]
theorem jr_A_of {A : Nat → Prop} {ws : va_W} {H0 H : Heap} {locs : List Loc} (hA : ∀ q, H0.size ≤ q → A q) (hS : va_S A H0 H locs) (hD : va_D A ws) : ∀ q, va_A ws H.size q → A q := by
  rintro q (⟨k, e, h⟩ | h)
  · exact hD.2 k _ h
  · exact hA q (Nat.le_trans hS.1 h)
theorem jr_K.next {tx : List String} {lits : List (List Int32)} {b Ln : Nat} {xs : Nat → Int32} {sa : Nat → Nat} {A : Nat → Prop} {s U : State} {H : Heap} {locs : List Loc} {ws : va_W} (hK : jr_K tx lits b Ln xs sa A s) (hS : va_S A s.heap H locs) (hD : va_D A ws) (hW : s.WarmedH U.vm) (hU : U.heap = H) : jr_K tx lits b Ln xs sa (va_A ws H.size) U := by
  have hAB := jr_A_of hK.1 hS hD
  obtain ⟨k1, ⟨k2, k3, k4⟩, k5, k6, ⟨k7, k8⟩, ⟨k9, k10⟩, ⟨k11, k12, k13⟩, k14, k15, k16⟩ := hK
  subst hU
  exact ⟨fun q h => Or.inr h, ⟨(k2.kept (hS.2.1 b k3 k4)).moved hW.alike, Nat.lt_of_lt_of_le k3 hS.1, fun q => k4 (hAB b q)⟩, fun own idx t j h1 h2 => (k5 own idx t j h1 h2).warm hW,
    ((k6.kept hS.2.1).narrow hAB).moved hW.alike, ⟨((k7.kept hS.2.1).narrow hAB).moved hW.alike, ((k8.kept hS.2.1).narrow hAB).moved hW.alike⟩,
    ⟨((k9.kept hS.2.1).narrow hAB).moved hW.alike, ((k10.kept hS.2.1).narrow hAB).moved hW.alike⟩, ⟨fun C hC => (k11 C hC).moved hW.alike, k12.moved hW.alike, k13.moved hW.alike⟩, k14.moved hW.alike, k15.moved hW.alike, k16.moved hW.alike⟩
theorem jr_K.calling {tx : List String} {lits : List (List Int32)} {b Ln : Nat} {xs : Nat → Int32} {sa : Nat → Nat} {A : Nat → Prop} {U : State} {g : JFrame} {mk9 : MethodId} {a : Array Value} (hK : jr_K tx lits b Ln xs sa A U) : jr_K tx lits b Ln xs sa A (U.calling g mk9 a) := by
  obtain ⟨k1, ⟨k2, k3, k4⟩, k5, k6, ⟨k7, k8⟩, ⟨k9, k10⟩, ⟨k11, k12, k13⟩, k14, k15, k16⟩ := hK
  have al : U.vm.Alike (U.calling g mk9 a).vm := Vm.Alike.refl U.vm
  exact ⟨k1, ⟨k2.moved al, k3, k4⟩, fun own idx t j h1 h2 => (k5 own idx t j h1 h2).same rfl, k6.moved al, ⟨k7.moved al, k8.moved al⟩, ⟨k9.moved al, k10.moved al⟩, ⟨fun C hC => (k11 C hC).moved al, k12.moved al, k13.moved al⟩, k14.moved al, k15.moved al, k16.moved al⟩
end
section
/-! the run of a method is the machine's -/
def jm_okr (M : jm_M) (e : jm_I) : Bool := match e.2.1 with
  | .return_ => decide (M.2.2.2.1 = none)
  | .ireturn => decide (jm_rz M.2.2.2.1 < 4)
  | .lreturn => decide (M.2.2.2.1 = some .long)
  | .areturn => match M.2.2.2.1 with
    | some (.object _) => true
    | some (.array _) => true
    | _ => false
  | _ => true
def jr_exn : Nat → String
  | 0 => jr_NSE
  | _ => jr_IAE
def jr_nms : List String := ["java/lang/RuntimeException", "java/lang/Exception"]
/-- a throw: new; dup; ldc_w; invokespecial; athrow -/
def jr_thr (tx : List String) (M : jm_M) (e : jm_I) : Prop := ∃ (ik is ic j k : Nat) (text : String), e.2.2.2.1 = 2000 + k ∧ k < 2 ∧ decode M.2.1 e.1 = .ok (.new ik, 3) ∧ decode M.2.1 (e.1 + 3) = .ok (.dup, 1) ∧ decode M.2.1 (e.1 + 4) = .ok (.ldc_w is, 3) ∧ decode M.2.1 (e.1 + 7) = .ok (.invokespecial ic, 3) ∧ decode M.2.1 (e.1 + 10) = .ok (.athrow, 1) ∧ tx[j]? = some text ∧ Cond.stringRef M.1.cls is text ∈ lw_tbl ∧ Cond.classLink M.1.cls ik (jr_exn k) ∈ jr_T ∧ Cond.initialized (jr_exn k) ∈ jr_T ∧
  (∀ w ∈ vx_atS M.1.cls ic (jr_exn k) jr_nms, w ∈ jr_T ∨ w = Cond.castable (jr_exn k) (jr_exn k)) ∧ (∀ w ∈ Cond.classLink M.1.cls ik (jr_exn k) :: Cond.initialized (jr_exn k) :: vx_atS M.1.cls ic (jr_exn k) jr_nms, vx_ot w = true) ∧ Bundle.fit (jr_exn k) = true
/-- a method's handlers, as the class file has them -/
def jr_hh (own : String) (hs hh : List (Nat × Nat × Nat × Nat)) : Prop :=
  (∃ f t hp k ct, hs = [(f, t, hp, k)] ∧ hh = [(f, t, hp, ct)] ∧ k < 2 ∧ ct ≠ 0 ∧ Cond.classLink own ct (jr_exn k) ∈ jr_T) ∨
  (∃ f t hp hp' c0 c1, hs = [(f, t, hp, 0), (f, t, hp', 1)] ∧ hh = [(f, t, hp, c0), (f, t, hp', c1)] ∧ c0 ≠ 0 ∧ c1 ≠ 0 ∧ Cond.classLink own c0 jr_NSE ∈ jr_T ∧ Cond.classLink own c1 jr_IAE ∈ jr_T)
/-- what is decided of a method, row by row -/
def jr_okM (cl : List vw_C) (tx : List String) (tb : List jm_M) (M : jm_M) : Prop :=
  (∃ Wd : List Cond, (∀ w ∈ Wd, w ∈ lw_tbl) ∧ ∀ e ∈ M.2.2.2.2.2.2, jm_okb cl tx tb Wd M.1.cls M.1.name M.2.1 M.2.2.1 e = true ∧ jm_okr M e = true ∧ (jm_kind e = 6 → jr_thr tx M e)) ∧
  (plainName M.1.cls = true ∧ M.1.cls ≠ "java/lang/invoke/MethodHandle" ∧ M.1.cls ≠ "java/lang/invoke/VarHandle") ∧ Cond.initialized M.1.cls ∈ jr_T ∧ M.2.2.1 ≤ 100 ∧
  ((M.2.2.2.2.1 = [] ∧ Cond.code M.1 M.2.1 M.2.2.1 M.2.2.2.1 ∈ jr_T) ∨ (M.2.2.2.2.1 ≠ [] ∧ ∃ hh, Cond.codeWith M.1 M.2.1 M.2.2.1 M.2.2.2.1 hh ∈ jr_T ∧ jr_hh M.1.cls M.2.2.2.2.1 hh)) ∧
  ((Cond.static M.1 ∈ jr_T ∧ jm_pn M = some M.2.2.2.2.2.1) ∨ (Cond.instanceMethod M.1 ∈ jr_T ∧ (M.1.name = "<init>" ∨ Cond.selects M.1.cls M.1 M.1 ∈ jr_T) ∧ (jm_pn M).map (· + 1) = some M.2.2.2.2.2.1)) ∧ (M.1.name = "<init>" → M.2.2.2.1 = none)
theorem jm_at_inv : ∀ {l : List jm_I} {pc : Nat} {e : jm_I}, jm_at l pc = some e → e ∈ l ∧ e.1 = pc
  | [], _, _, h => by cases h
  | a :: r, pc, e, h => by
    unfold jm_at at h
    split at h
    next g => cases h; exact ⟨List.mem_cons_self, g⟩
    next =>
      obtain ⟨h1, h2⟩ := jm_at_inv h
      exact ⟨List.mem_cons_of_mem _ h1, h2⟩
/-- one step of the run -/
theorem jm_run_succ {G : jm_G} {tb : List jm_M} {n d : Nat} {M : jm_M} {pc : Nat} {L0 : jm_L} {st : List Value} {h : jm_H} {r : jm_O × jm_H} (hr : jm_run G tb (n + 1) d M pc L0 st h = some r) : ∃ (e : jm_I) (L : jm_L), jm_at M.2.2.2.2.2.2 pc = some e ∧ L = (if e.2.2.2.2.2.2.2.2 = [] then L0 else jm_mask e.2.2.2.2.2.2.2.2 L0) ∧
    ((jm_kind e = 0 ∧ ∃ q, jm_stp G e L st h = some q ∧ jm_run G tb n d M q.1 q.2.1 q.2.2.1 q.2.2.2 = some r) ∨
     (jm_kind e = 5 ∧ ∃ (d' : Nat) (M' : jm_M) (o : jm_O) (h1 : jm_H), d = d' + 1 ∧ tb[e.2.2.2.1]? = some M' ∧ M'.2.2.2.2.2.1 ≤ st.length ∧ jm_rcv G h e.2.1 e.2.2.2.2.2.1 (st.take M'.2.2.2.2.2.1).reverse = true ∧ jm_lt (st.drop M'.2.2.2.2.2.1) = true ∧ (jm_lay (st.take M'.2.2.2.2.2.1).reverse).length ≤ M'.2.2.1 ∧
        jm_run G tb n d' M' 0 (jm_ent (st.take M'.2.2.2.2.2.1).reverse M'.2.2.1) [] h = some (o, h1) ∧
        ((∃ v, o = .inl v ∧ jm_run G tb n d M e.2.2.1 L (v.toList ++ st.drop M'.2.2.2.2.2.1) h1 = some r) ∨ (∃ E, o = .inr E ∧ jm_sp e.2.1 = false ∧ ((∃ hp, jm_hnd M.2.2.2.2.1 pc E = some hp ∧ jm_run G tb n d M hp L [.float 1] h1 = some r) ∨ (M.2.2.2.2.1 = [] ∧ r = (.inr E, h1)))))) ∨
     (jm_kind e = 6 ∧ M.2.2.2.2.1 = [] ∧ st = [] ∧ r = (.inr (e.2.2.2.1 - 2000), (h.1, h.2.1 + 1, h.2.2 + 6))) ∨
     (∃ v, jm_ret (jm_rz M.2.2.2.1) (jm_kind e) st = some v ∧ r = (.inl v, h))) := by
  rw [jm_run] at hr
  split at hr
  next => cases hr
  next e he =>
  refine ⟨e, _, he, rfl, ?_⟩
  dsimp only at hr
  generalize hL : (if e.2.2.2.2.2.2.2.2 = [] then L0 else jm_mask e.2.2.2.2.2.2.2.2 L0) = L at hr
  split at hr
  next hk =>
    obtain ⟨q, h1, h2⟩ := Option.bind_eq_some_iff.mp hr
    exact Or.inl ⟨hk, q, by simpa using h1, h2⟩
  next hk =>
    split at hr
    next d' M' hM =>
      split at hr
      next hc =>
        obtain ⟨c1, c2, c3, c4⟩ := hc
        split at hr
        next v h1 hrun =>
          exact Or.inr (Or.inl ⟨hk, d', M', .inl v, h1, rfl, hM, c1, c2, c3, c4, hrun, Or.inl ⟨v, rfl, by simpa using hr⟩⟩)
        next E h1 hrun =>
          split at hr
          next => cases hr
          next hsp =>
          refine Or.inr (Or.inl ⟨hk, d', M', .inr E, h1, rfl, hM, c1, c2, c3, c4, hrun, Or.inr ⟨E, rfl, by simpa using hsp, ?_⟩⟩)
          split at hr
          next hp hhp => exact Or.inl ⟨hp, hhp, by simpa using hr⟩
          next =>
            split at hr
            next hM0 => cases hr; exact Or.inr ⟨hM0, rfl⟩
            next => cases hr
        next => cases hr
      next => cases hr
    next => cases hr
  next hk =>
    split at hr
    next hM0 => cases hr; exact Or.inr (Or.inr (Or.inl ⟨hk, hM0.1, hM0.2, rfl⟩))
    next => cases hr
  next =>
    obtain ⟨v, h1, h2⟩ := Option.map_eq_some_iff.mp hr
    exact Or.inr (Or.inr (Or.inr ⟨v, h1, h2.symm⟩))
theorem jm_run_mono {G : jm_G} {tb : List jm_M} : ∀ {n d : Nat} {M : jm_M} {pc : Nat} {L0 : jm_L} {st : List Value} {h : jm_H} {r : jm_O × jm_H}, jm_run G tb n d M pc L0 st h = some r → h.2.1 ≤ r.2.2.1 ∧ h.2.2 ≤ r.2.2.2 := by
  intro n
  induction n with
  | zero => intro d M pc L0 st h r hr; cases hr
  | succ n ih =>
    intro d M pc L0 st h r hr
    obtain ⟨e, L, -, -, ⟨-, q, h1, h2⟩ | ⟨-, d', M', o, h1, -, -, -, -, -, -, hrun, hgo⟩ | ⟨-, -, -, rfl⟩ | ⟨v, -, rfl⟩⟩ := jm_run_succ hr
    · have a := jm_stp_mono h1
      have b := ih h2
      omega
    · have a := ih hrun
      rcases hgo with ⟨v, -, h2⟩ | ⟨E, -, -, ⟨hp, -, h2⟩ | ⟨-, rfl⟩⟩
      · have b := ih h2
        dsimp only at a
        omega
      · have b := ih h2
        dsimp only at a
        omega
      · exact a
    · exact ⟨Nat.le_succ _, Nat.le_add_right _ _⟩
    · exact ⟨Nat.le_refl _, Nat.le_refl _⟩
end
section
/-! calls, and what a method of the abstract machine owes as a contract -/
section JX
variable {p : Program} {l : Launch} {e : Env} {R : Room} {s : State} {m : MethodId} {args : Array Value} {below : List Frame} {meth : Method} {c : Code} {H : Heap} {locs : List Loc} {cells slots : Nat} {Q : State → Prop}
variable {pc : Nat} {ls : Array Slot} {rest st0 : List Value} {mc ms : Nat} {free : Addr → Prop}
theorem jx_call {Qa : State → Outcome → State → Prop} {XC : String → State → State → Prop} (hr : vx_Run p l e R s m args below meth c H locs cells slots mc ms (F0 m pc ls st0) rest Qa XC free)
    (kx : ∀ (E : String) (ce : Cell) (q9 : Addr) (st₀ t : State) (H1 : Heap) (L : List Loc), t.heap = H1 → s.vm.Alike t.vm → st₀.heap = H → XC E st₀ t → (∀ q ∈ L, free q.base) → H1[q9]? = some ce → ce.vm = .none → s.vm.findClass E = some ce.cls → vx_W p l e R s m args below meth c H1 (locs ++ L) (cells + mc) (slots + ms) Q (F0 m pc ls rest) q9)
    (kk : ∀ (v : Option Value) (st₀ t : State) (H1 : Heap) (L : List Loc), t.heap = H1 → s.vm.Alike t.vm → st₀.heap = H → Qa st₀ (.returned v) t → (∀ q ∈ L, free q.base) → W p l e R s m args below meth c H1 (locs ++ L) (cells + mc) (slots + ms) Q (F0 m (pc + 3) ls (v.toList ++ rest))) : W p l e R s m args below meth c H locs cells slots Q (F0 m pc ls st0) := by
  intro T hT X
  rcases hr T hT X with ⟨v, st₀, t, T', L, h0, X', hL, e1, e2, hq, st⟩ | ⟨q, st₀, t, T', L, E, ce, h0, X', hL, e1, e2, hx, hce, hcv, hcl, st⟩
  · obtain ⟨t2, a1, b1⟩ := kk v st₀ t T'.heap L e1.symm (by rw [← e2]; exact X'.warmed.alike) h0 hq hL T' rfl X'
    exact ⟨t2, st t2 a1, b1⟩
  · obtain ⟨t2, a1, b1⟩ := kx E ce q st₀ t T'.heap L e1.symm (by rw [← e2]; exact X'.warmed.alike) h0 hx hL (by rw [e1]; exact hce) hcv hcl T' rfl X'
    exact ⟨t2, st.trans a1, b1⟩
theorem jx_callI {Qa : State → Outcome → State → Prop} (hr : va_Run p l e R s m args below meth c H locs cells slots mc ms (F0 m pc ls st0) rest Qa free)
    (kk : ∀ (v : Option Value) (st₀ t : State) (H1 : Heap) (L : List Loc), t.heap = H1 → s.vm.Alike t.vm → st₀.heap = H → Qa st₀ (.returned v) t → (∀ q ∈ L, free q.base) → W p l e R s m args below meth c H1 (locs ++ L) (cells + mc) (slots + ms) Q (F0 m (pc + 3) ls (v.toList ++ rest))) : W p l e R s m args below meth c H locs cells slots Q (F0 m pc ls st0) := by
  intro T hT X
  obtain ⟨v, st₀, t, T', L, h0, X', hL, e1, e2, hq, st⟩ := hr T hT X
  obtain ⟨t2, a1, b1⟩ := kk v st₀ t T'.heap L e1.symm (by rw [← e2]; exact X'.warmed.alike) h0 hq hL T' rfl X'
  exact ⟨t2, st t2 a1, b1⟩
end JX
theorem jr_S.take {b : Nat} {sa : Nat → Nat} {ws : va_W} : ∀ {st S : List Value}, jr_S b sa ws st S → ∀ k, jr_S b sa ws (st.take k) (S.take k)
  | [], [], _, k => by simp [jr_S]
  | _ :: _, _ :: _, _, 0 => trivial
  | _ :: _, _ :: _, ⟨h1, h2⟩, k + 1 => ⟨h1, jr_S.take h2 k⟩
  | [], _ :: _, h, _ => h.elim
  | _ :: _, [], h, _ => h.elim
theorem jr_S.drop {b : Nat} {sa : Nat → Nat} {ws : va_W} : ∀ {st S : List Value}, jr_S b sa ws st S → ∀ k, jr_S b sa ws (st.drop k) (S.drop k)
  | [], [], _, k => by simp [jr_S]
  | _ :: _, _ :: _, h, 0 => h
  | _ :: _, _ :: _, ⟨_, h2⟩, k + 1 => jr_S.drop h2 k
  | [], _ :: _, h, _ => h.elim
  | _ :: _, [], h, _ => h.elim
theorem jr_S.app {b : Nat} {sa : Nat → Nat} {ws : va_W} : ∀ {a A c C : List Value}, jr_S b sa ws a A → jr_S b sa ws c C → jr_S b sa ws (a ++ c) (A ++ C)
  | [], [], _, _, _, h => h
  | _ :: _, _ :: _, _, _, ⟨h1, h2⟩, h => ⟨h1, jr_S.app h2 h⟩
  | [], _ :: _, _, _, h, _ => h.elim
  | _ :: _, [], _, _, h, _ => h.elim
theorem jr_S.rev {b : Nat} {sa : Nat → Nat} {ws : va_W} : ∀ {st S : List Value}, jr_S b sa ws st S → jr_S b sa ws st.reverse S.reverse
  | [], [], _ => trivial
  | v :: r, V :: R, ⟨h1, h2⟩ => by
    rw [List.reverse_cons, List.reverse_cons]
    exact (jr_S.rev h2).app ⟨h1, trivial⟩
  | [], _ :: _, h => h.elim
  | _ :: _, [], h => h.elim
/-- how locals begin -/
theorem jr_lay {b : Nat} {sa : Nat → Nat} {ws : va_W} : ∀ {vs As : List Value}, jr_S b sa ws vs As → (jm_lay vs).length = (lg_sl As).length ∧ ∀ (i : Nat) (v : Value), (jm_lay vs)[i]? = some (some v) → ∃ V, jr_V b sa ws v V ∧ (lg_sl As)[i]? = some (.val V)
  | [], [], _ => ⟨rfl, fun i v h => by simp [jm_lay] at h⟩
  | [], _ :: _, h => h.elim
  | _ :: _, [], h => h.elim
  | v :: r, V :: R, ⟨h1, h2⟩ => by
    obtain ⟨g1, g2⟩ := jr_lay h2
    have hw := jr_w h1
    by_cases hv : ∃ x, v = .long x
    · obtain ⟨x, rfl⟩ := hv
      have hw : V.category = 2 := hw
      have e1 : jm_lay (.long x :: r) = some (.long x) :: none :: jm_lay r := rfl
      have e2 : lg_sl (V :: R) = .val V :: .second :: lg_sl R := by simp [lg_sl, hw]
      rw [e1, e2]
      refine ⟨by simp [g1], fun i u hu => ?_⟩
      match i, hu with
      | 0, hu => simp at hu; subst hu; exact ⟨V, h1, rfl⟩
      | 1, hu => simp at hu
      | i + 2, hu => exact g2 i u (by simpa using hu)
    · have hw1 : V.category = 1 := by
        rw [hw]
        cases v <;> first | rfl | exact absurd ⟨_, rfl⟩ hv
      have e1 : jm_lay (v :: r) = some v :: jm_lay r := by
        cases v <;> first | rfl | exact absurd ⟨_, rfl⟩ hv
      have e2 : lg_sl (V :: R) = .val V :: lg_sl R := by simp [lg_sl, hw1]
      rw [e1, e2]
      refine ⟨by simp [g1], fun i u hu => ?_⟩
      match i, hu with
      | 0, hu => simp at hu; subst hu; exact ⟨V, h1, rfl⟩
      | i + 1, hu => exact g2 i u (by simpa using hu)
theorem jr_ent {b : Nat} {sa : Nat → Nat} {ws : va_W} {vs As : List Value} {n : Nat} (h : jr_S b sa ws vs As) (hn : (jm_lay vs).length ≤ n) : jr_L b sa ws (jm_ent vs n) ((lg_sl As ++ List.replicate (n - (lg_sl As).length) Slot.unset).toArray) n := by
  obtain ⟨g1, g2⟩ := jr_lay h
  have hl := lv_entry As (n := n) (by rw [← g1]; exact hn)
  refine ⟨by simp [jm_ent]; omega, hl.1, hl.2.1, fun i v hv => ?_⟩
  unfold jm_ent at hv
  have hi : i < (jm_lay vs).length := by
    apply Classical.byContradiction
    intro hi
    rw [List.getElem?_append_right (by omega)] at hv
    rw [List.getElem?_replicate] at hv
    split at hv <;> cases hv
  rw [List.getElem?_append_left hi] at hv
  obtain ⟨V, h1, h2⟩ := g2 i v hv
  exact ⟨V, h1, by rw [List.getElem?_toArray, List.getElem?_append_left (by rw [← g1]; exact hi)]; exact h2⟩
def jr_rm (d mc ms : Nat) : Room := { frames := 10 + d, cells := mc, slots := ms, locals := 300 + 120 * d }
/-- the world behind a method -/
def jx_B (D : va_G) (cl : List vw_C) (b : Nat) (sa : Nat → Nat) (ws : va_W) (tys : List (ClassId × FieldType)) (sz : Nat) (h' : jm_H) (t : State) (ws' : va_W) : Prop :=
  ∃ tys', jr_le ws ws' ∧ (∀ q ∈ tys, q ∈ tys') ∧ va_K D cl tys' t ∧ va_P D cl ws' t.heap ∧ va_D (va_A ws sz) ws' ∧ jr_H b sa ws' tys' h'
def jx_Q (D : va_G) (cl : List vw_C) (b : Nat) (sa : Nat → Nat) (ws : va_W) (tys : List (ClassId × FieldType)) (sz : Nat) (o : jm_O) (h' : jm_H) : Array Value → State → Outcome → State → Prop := fun _ st oc t =>
  (∃ (v V : Option Value) (ws' : va_W), o = .inl v ∧ oc = .returned V ∧ jr_S b sa ws' v.toList V.toList ∧ jx_B D cl b sa ws tys sz h' t ws') ∧ va_F (va_A ws sz) st t
def jx_X (D : va_G) (cl : List vw_C) (b : Nat) (sa : Nat → Nat) (ws : va_W) (tys : List (ClassId × FieldType)) (sz : Nat) (o : jm_O) (h' : jm_H) : String → State → State → Prop := fun E st t =>
  (∃ (k : Nat) (ws' : va_W), o = .inr k ∧ E = jr_exn k ∧ jx_B D cl b sa ws tys sz h' t ws') ∧ va_F (va_A ws sz) st t
def jx_P (D : va_G) (cl : List vw_C) (tx : List String) (lits : List (List Int32)) (b Ln : Nat) (xs : Nat → Int32) (sa : Nat → Nat) (ws : va_W) (tys : List (ClassId × FieldType)) (sz : Nat) (As : List Value) : Array Value → State → Prop :=
  va_Pc As (fun U => U.heap.size = sz ∧ va_K D cl tys U ∧ va_P D cl ws U.heap ∧ va_D (fun _ => True) ws ∧ jr_K tx lits b Ln xs sa (va_A ws sz) U)
theorem jx_P_blind {D : va_G} {cl : List vw_C} {tx : List String} {lits : List (List Int32)} {b Ln : Nat} {xs : Nat → Int32} {sa : Nat → Nat} {ws : va_W} {tys : List (ClassId × FieldType)} {sz : Nat} {As : List Value} : FrameBlind (jx_P D cl tx lits b Ln xs sa ws tys sz As) := fun a U g mk q => by
  obtain ⟨q0, q1, qK, qP, qD, qj⟩ := q
  exact ⟨q0, q1, va_K.moved (u := U) (U := U.calling g mk a) (Vm.Alike.refl U.vm) qK, qP, qD, qj.calling⟩
/-- a method's table of handlers -/
def jx_Ok (M : jm_M) (c : Code) : Prop := (M.2.2.2.2.1 = [] ∧ ∀ x ∈ c.exceptionTable.toList, False) ∨ (M.2.2.2.2.1 ≠ [] ∧ ∃ hh, c.exceptionTable.toList = tableOf hh ∧ jr_hh M.1.cls M.2.2.2.2.1 hh)
section JW
variable (p : Program) (l : Launch) (e : Env) (R : Room) (s : State) (m : MethodId) (args : Array Value) (below : List Frame) (meth : Method) (c : Code) (D : va_G) (cl : List vw_C) (A : Nat → Prop) (nL b : Nat) (sa : Nat → Nat) (ws : va_W) (tys : List (ClassId × FieldType)) (h : jm_H) (cells slots : Nat) (Q : State → Prop) (M : jm_M) (o : jm_O) (h' : jm_H)
def jx_End : Prop := ∀ (ee : jm_I) (v : Option Value) (st' : List Value), ee ∈ M.2.2.2.2.2.2 → jm_ret (jm_rz M.2.2.2.1) (jm_kind ee) st' = some v → o = .inl v →
  ∀ (ws' : va_W) (tys' : List (ClassId × FieldType)) (H' : Heap) (locs' : List Loc) (ls' : Array Slot) (S' : List Value) (cells' slots' : Nat), jr_le ws ws' → (∀ t ∈ tys, t ∈ tys') → jr_I D cl A b sa s h' H' locs' ws' tys' → ls'.size = nL → jr_S b sa ws' st' S' → cells' + h.2.1 = cells + h'.2.1 → slots' + h.2.2 = slots + h'.2.2 → W p l e R s m args below meth c H' locs' cells' slots' Q (F0 m ee.1 ls' S')
def jx_Thr : Prop := ∀ (ee : jm_I) (h1 : jm_H), ee ∈ M.2.2.2.2.2.2 → jm_kind ee = 6 → M.2.2.2.2.1 = [] → o = .inr (ee.2.2.2.1 - 2000) → h' = (h1.1, h1.2.1 + 1, h1.2.2 + 6) →
  ∀ (ws' : va_W) (tys' : List (ClassId × FieldType)) (H' : Heap) (locs' : List Loc) (ls' : Array Slot) (cells' slots' : Nat), jr_le ws ws' → (∀ t ∈ tys, t ∈ tys') → jr_I D cl A b sa s h1 H' locs' ws' tys' → ls'.size = nL → cells' + 1 + h.2.1 = cells + h'.2.1 → slots' + 6 + h.2.2 = slots + h'.2.2 → W p l e R s m args below meth c H' locs' cells' slots' Q (F0 m ee.1 ls' [])
def jx_Esc : Prop := ∀ E : Nat, M.2.2.2.2.1 = [] → o = .inr E →
  ∀ (ws' : va_W) (tys' : List (ClassId × FieldType)) (H' : Heap) (locs' : List Loc) (ls' : Array Slot) (pc' : Nat) (rest : List Value) (cells' slots' : Nat) (q9 : Addr) (ce : Cell), jr_le ws ws' → (∀ t ∈ tys, t ∈ tys') → jr_I D cl A b sa s h' H' locs' ws' tys' → cells' + h.2.1 = cells + h'.2.1 → slots' + h.2.2 = slots + h'.2.2 → H'[q9]? = some ce → ce.vm = .none → s.vm.findClass (jr_exn E) = some ce.cls → vx_W p l e R s m args below meth c H' locs' cells' slots' Q (F0 m pc' ls' rest) q9
end JW
def jx_Walk (G : jm_G) (tb : List jm_M) (cl : List vw_C) (tx : List String) (l : Launch) (n : Nat) : Prop :=
  ∀ (d : Nat) (M : jm_M) (pc : Nat) (L : jm_L) (st : List Value) (h : jm_H) (o : jm_O) (h' : jm_H), M ∈ tb → jm_run G tb n d M pc L st h = some (o, h') →
  ∀ (p : Program) (e : Env) (R : Room) (s : State) (m : MethodId) (args : Array Value) (below : List Frame) (meth : Method) (c : Code) (H : Heap) (locs : List Loc) (cells slots : Nat) (Q : State → Prop) (ls : Array Slot) (S : List Value) (D : va_G) (A : Nat → Prop) (tys : List (ClassId × FieldType)) (ws : va_W) (b : Nat) (sa : Nat → Nat),
  jr_E p c M.2.1 M.2.2.1 s args M.1.cls M.1.name m meth R → (10 + d ≤ R.frames ∧ 300 + 120 * d ≤ R.locals) → jr_K tx G.2.1 b G.2.2.1 G.2.2.2 sa A s → jx_Ok M c → jr_I D cl A b sa s h H locs ws tys → jr_L b sa ws L ls M.2.2.1 → jr_S b sa ws st S → (cells + h'.2.1 ≤ R.cells + h.2.1 ∧ slots + h'.2.2 ≤ R.slots + h.2.2) →
  jx_End p l e R s m args below meth c D cl A M.2.2.1 b sa ws tys h cells slots Q M o h' → jx_Thr p l e R s m args below meth c D cl A M.2.2.1 b sa ws tys h cells slots Q M o h' → jx_Esc p l e R s m args below meth c D cl A b sa ws tys h cells slots Q M o h' →
  W p l e R s m args below meth c H locs cells slots Q (F0 m pc ls S)
end
section
/-! a method's contract out of the walk of its code -/
theorem jr_okM_code {cl : List vw_C} {tx : List String} {tb : List jm_M} {M : jm_M} (h : jr_okM cl tx tb M) {ee : jm_I} (he : ee ∈ M.2.2.2.2.2.2) : decode M.2.1 ee.1 = .ok (ee.2.1, ee.2.2.1 - ee.1) ∧ ee.2.2.1 = ee.1 + jm_il ee.2.1 (ee.2.2.1 - ee.1) ∧ (ee.2.2.2.2.2.2.2.2 = [] ∨ ee.2.2.2.2.2.2.2.2.length = M.2.2.1) := by
  obtain ⟨⟨Wd, -, h2⟩, -⟩ := h
  have h3 := (h2 ee he).1
  obtain ⟨pc, i, np, x, y, z, w, v, bs⟩ := ee
  simp only [jm_okb, Bool.and_eq_true, decide_eq_true_eq] at h3
  exact ⟨h3.1, h3.2.1, h3.2.2.1⟩
theorem va_P.same {D : va_G} {cl : List vw_C} {ws : va_W} {H H1 : Heap} (h : va_P D cl ws H) (hq : ∀ q : Nat, q < H.size → H1[q]? = H[q]?) : va_P D cl ws H1 := h.kept (fun k q hk => hq q.1 (vx_lt h hk))
section JB
variable {p : Program} {l : Launch} {e : Env} {R : Room} {s : State} {m : MethodId} {args : Array Value} {below : List Frame} {meth : Method} {c : Code} {H : Heap} {locs : List Loc} {mc ms : Nat} {D : va_G} {cl : List vw_C} {b : Nat} {sa : Nat → Nat} {ws ws' : va_W} {tys tys' : List (ClassId × FieldType)} {o : jm_O} {h' : jm_H} {M : jm_M} {tx : List String} {tb : List jm_M} {ls : Array Slot} {S : List Value} {sz : Nat}
theorem jx_back (hsz : s.heap.size = sz) (h1 : jr_le ws ws') (h2 : ∀ t ∈ tys, t ∈ tys') (hI : jr_I D cl (va_A ws sz) b sa s h' H locs ws' tys') {t : State} (ht : t.heap = H) (hvm : s.vm.Alike t.vm) : jx_B D cl b sa ws tys sz h' t ws' ∧ va_F (va_A ws sz) s t := by
  obtain ⟨hK, hP, hD, hS, hH⟩ := hI
  exact ⟨⟨tys', h1, h2, va_K.moved hvm hK, by rw [ht]; exact hP, hD, hH⟩, hS.F ht⟩
/-- the returns -/
theorem jx_rets (hx : p.tables.exec = Jvm.exec) (hb : c.code = M.2.1) (hr : meth.sig.returnType = M.2.2.2.1) (hlocks : meth.locks = false) (hok : jr_okM cl tx tb M) (hsz : s.heap.size = sz) {ee : jm_I} {v : Option Value} {st' : List Value} (hee : ee ∈ M.2.2.2.2.2.2) (hret : jm_ret (jm_rz M.2.2.2.1) (jm_kind ee) st' = some v) (ho : o = .inl v)
    (h1 : jr_le ws ws') (h2 : ∀ t ∈ tys, t ∈ tys') (hI : jr_I D cl (va_A ws sz) b sa s h' H locs ws' tys') (hS : jr_S b sa ws' st' S) : W p l e R s m args below meth c H locs mc ms (vx_MQ below (jx_Q D cl b sa ws tys sz o h') (jx_X D cl b sa ws tys sz o h') args s mc ms (va_A ws sz)) (F0 m ee.1 ls S) := by
  obtain ⟨hd0, hnp, -⟩ := jr_okM_code hok hee
  have hokr := (hok.1.choose_spec.2 ee hee).2.1
  have hlocs := hI.2.2.2.1.2.2
  obtain ⟨pc, i, np, x, y, z, w, u, bs⟩ := ee
  refine vx_ret ?_
  have hi : i = .return_ ∨ i = .ireturn ∨ i = .lreturn ∨ i = .areturn := by
    cases i <;> simp only [jm_kind] at hret <;> first
      | exact Or.inl rfl
      | exact Or.inr (Or.inl rfl)
      | exact Or.inr (Or.inr (Or.inl rfl))
      | exact Or.inr (Or.inr (Or.inr rfl))
      | (simp [jm_ret] at hret; done)
      | (split at hret <;> simp [jm_ret] at hret; done)
  have hnp1 : np = pc + 1 := by rcases hi with rfl | rfl | rfl | rfl <;> exact hnp
  have hd : decode M.2.1 pc = .ok (i, 1) := by
    have e1 : np - pc = 1 := by omega
    rw [← e1]; exact hd0
  rcases hi with rfl | rfl | rfl | rfl
  · have hret : jm_ret (jm_rz M.2.2.2.1) 1 st' = some v := hret
    unfold jm_ret at hret
    split at hret <;> first | contradiction | skip
    cases hret
    cases S with
    | cons => exact hS.elim
    | nil =>
      have hrn : M.2.2.2.1 = none := of_decide_eq_true hokr
      exact W.vret hx hb (hr.trans hrn) (fun t ht hW => by
        obtain ⟨g1, g2⟩ := jx_back hsz h1 h2 hI ht hW.alike
        exact ⟨⟨none, none, ws', ho, rfl, trivial, g1⟩, g2⟩) hlocs hd hlocks
  · have hret : jm_ret (jm_rz M.2.2.2.1) 2 st' = some v := hret
    unfold jm_ret at hret
    split at hret <;> first | contradiction | skip
    rename_i x0 _ _
    split at hret
    next hc =>
      cases hret
      obtain ⟨R0, rfl, hS0⟩ := jr_S_i hS
      cases R0 with
      | cons => exact hS0.elim
      | nil =>
      have hq : ∀ t : State, t.heap = H → s.WarmedH t.vm → jx_Q D cl b sa ws tys sz o h' args s (.returned (some (.int x0))) t := fun t ht hW => by
        obtain ⟨g1, g2⟩ := jx_back hsz h1 h2 hI ht hW.alike
        exact ⟨⟨some (.int x0), some (.int x0), ws', ho, rfl, ⟨rfl, trivial⟩, g1⟩, g2⟩
      have hrr : jm_rz M.2.2.2.1 < 4 := of_decide_eq_true hokr
      cases hM : M.2.2.2.1 with
      | none => rw [hM] at hrr; exact absurd hrr (by decide)
      | some ty =>
        rw [hM] at hrr hc hr
        have hn : narrow ty (.int x0) = .int x0 := by
          cases ty <;> simp only [jm_rz] at hc hrr <;> first
            | (exfalso; revert hrr; decide)
            | rfl
            | (rcases hc with h | h | h | h <;> first | (exfalso; revert h; decide) | (obtain ⟨h9, h | h⟩ := h <;> subst h <;> first | rfl | (exfalso; revert h9; decide)) | (obtain ⟨h9, h⟩ := h; first | exact h | (subst h; rfl) | (exfalso; revert h9; decide)))
            | skip
        exact W.zret hx hb hr hn hq hlocs hd hlocks
    next => cases hret
  · have hret : jm_ret (jm_rz M.2.2.2.1) 3 st' = some v := hret
    unfold jm_ret at hret
    split at hret <;> first | contradiction | skip
    rename_i x0 _ _
    cases hret
    obtain ⟨R0, rfl, hS0⟩ := jr_S_l hS
    cases R0 with
    | cons => exact hS0.elim
    | nil =>
      have hrn : M.2.2.2.1 = some .long := of_decide_eq_true hokr
      exact W.lret hx hb (hr.trans hrn) (fun t ht hW => by
        obtain ⟨g1, g2⟩ := jx_back hsz h1 h2 hI ht hW.alike
        exact ⟨⟨some (.long x0), some (.long x0), ws', ho, rfl, ⟨rfl, trivial⟩, g1⟩, g2⟩) hlocs hd hlocks
  · have hret : jm_ret (jm_rz M.2.2.2.1) 4 st' = some v := hret
    unfold jm_ret at hret
    split at hret <;> first | contradiction | skip
    rename_i x0 _ _
    cases hret
    obtain ⟨w0, R0, hw0, rfl, hS0⟩ := jr_S_r hS
    cases R0 with
    | cons => exact hS0.elim
    | nil =>
      simp only [jm_okr] at hokr
      cases hM : M.2.2.2.1 with
      | none => rw [hM] at hokr; cases hokr
      | some ty =>
        rw [hM] at hokr hr
        have hrt : (∃ n, ty = .object n) ∨ ∃ t, ty = .array t := by
          cases ty <;> first | exact Or.inl ⟨_, rfl⟩ | exact Or.inr ⟨_, rfl⟩ | cases hokr
        exact W.aret hx hb hr hrt (Or.inr ⟨_, rfl⟩) (fun t ht hW => by
          obtain ⟨g1, g2⟩ := jx_back hsz h1 h2 hI ht hW.alike
          exact ⟨⟨some (.ref x0), some (.ref w0.1), ws', ho, rfl, ⟨⟨w0, hw0, rfl⟩, trivial⟩, g1⟩, g2⟩) hlocs hd hlocks
/-- a throw -/
theorem jx_throws {G : jm_G} {A0 : Nat → Prop} (hx : p.tables.exec = Jvm.exec) (hb : c.code = M.2.1) (hl : l.stackTraces = false) (hlocks : meth.locks = false) (hE : jr_E p c M.2.1 M.2.2.1 s args M.1.cls M.1.name m meth R) (hK : jr_K tx G.2.1 b G.2.2.1 G.2.2.2 sa (va_A ws sz) s) (hok : jr_okM cl tx tb M) (hXt : ∀ x ∈ c.exceptionTable.toList, False) (hsz : s.heap.size = sz) {ee : jm_I} {h1 : jm_H} (hee : ee ∈ M.2.2.2.2.2.2) (hk6 : jm_kind ee = 6) (ho : o = .inr (ee.2.2.2.1 - 2000)) (hh : h' = (h1.1, h1.2.1 + 1, h1.2.2 + 6))
    (g1 : jr_le ws ws') (g2 : ∀ t ∈ tys, t ∈ tys') (hI : jr_I D cl (va_A ws sz) b sa s h1 H locs ws' tys') {cells slots : Nat} (hls : ls.size = M.2.2.1) (hc : cells + 1 = mc) (hs : slots + 6 = ms) (hRc : mc ≤ R.cells) (hRs : ms ≤ R.slots) : W p l e R s m args below meth c H locs cells slots (vx_MQ below (jx_Q D cl b sa ws tys sz o h') (jx_X D cl b sa ws tys sz o h') args s mc ms (va_A ws sz)) (F0 m ee.1 ls []) := by
  obtain ⟨ik, is, ic, j, k, text, e1, hk2, d0, d3, d4, d7, d10, htx, hstr, hlk, hini, hat, hgood, hfit⟩ := (hok.1.choose_spec.2 ee hee).2.2 hk6
  obtain ⟨-, -, hml, hts, hown, hnm, hRf, hRl⟩ := hE
  obtain ⟨hKA, -, hKs, -, -, ⟨hU, hN⟩, -, hCa, hCb, -⟩ := hK
  obtain ⟨hI1, hI2, hI3, hI4, hI5⟩ := hI
  have hat' : ∀ w ∈ vx_atS M.1.cls ic (jr_exn k) jr_nms, w.before args s = true := fun w hw => by
    rcases hat w hw with h | h
    · exact hts w h
    · subst h
      have : k = 0 ∨ k = 1 := by omega
      rcases this with rfl | rfl
      · exact hCa.use
      · exact hCb.use
  refine vx_throwSW (cls := jr_exn k) (names := jr_nms) (text := text) (sa := sa j) (own := M.1.cls) hx hb hl hown hfit (by decide +kernel) (hts _ hlk) (hts _ hini) (hKs _ _ _ _ hstr htx) hat' hgood hU hN hI4 (by rw [hls, hml]) d0 d3 d4 d7 d10 (fun x hx => (hXt x hx).elim) (by show 5 < R.frames; omega) (by show ([] : List Value).map (fun v => v.category) |>.sum |> (· + 82) |> (· ≤ R.locals); show 0 + 82 ≤ R.locals; omega) (by omega) (by omega) hlocks (fun t hvm hz hq => ?_) hI4.2.2 (by omega) (by omega)
  refine ⟨⟨k, ws', by rw [ho, e1, Nat.add_sub_cancel_left], rfl, tys', g1, g2, va_K.moved hvm hI1, hI2.same hq, hI3, by rw [hh]; exact ⟨hI5.1, hI5.2⟩⟩, Nat.le_trans hI4.1 hz, fun q hq1 hq2 => ?_⟩
  rw [hq q (Nat.lt_of_lt_of_le hq1 hI4.1)]
  exact hI4.2.1 q hq1 hq2
end JB
end
section
/-! the walk of a method, and the contracts of those that it calls -/
theorem jr_good {ws : List Cond} (h : ∀ w ∈ ws, w ∈ jr_T) : GoodIn jr_T ws := goodIn_sub h (List.all_eq_true.mpr fun w hw => (List.mem_filter.mp (h w hw)).2)
theorem jx_trueD {A : Nat → Prop} {ws : va_W} (h : va_D A ws) : va_D (fun _ => True) ws := h.weaken (fun _ _ _ _ => trivial)
section JV
variable {G : jm_G} {tb : List jm_M} {cl : List vw_C} {tx : List String} {l : Launch} {n : Nat}
theorem jx_body (hWk : jx_Walk G tb cl tx l n) (hl : l.stackTraces = false) (hT : ∀ M ∈ tb, jr_okM cl tx tb M) {d : Nat} {M : jm_M} {vs : List Value} {h : jm_H} {o : jm_O} {h' : jm_H} (hM : M ∈ tb) (hrun : jm_run G tb n d M 0 (jm_ent vs M.2.2.1) [] h = some (o, h')) (hlen : (jm_lay vs).length ≤ M.2.2.1)
    {D : va_G} {tys : List (ClassId × FieldType)} {ws : va_W} {b : Nat} {sa : Nat → Nat} {sz : Nat} {As : List Value} (hvs : jr_S b sa ws vs As) (hH : jr_H b sa ws tys h) {w0 : Cond} {mc ms : Nat} (hmc : h'.2.1 = h.2.1 + mc) (hms : h'.2.2 = h.2.2 + ms)
    {p : Program} {e : Env} {s : State} {m : MethodId} {args : Array Value} {below : List Frame} {meth : Method} {c : Code} {s₁ : State} (B : BodyLoose p l M.1 (headSpec (w0 :: jr_T) (jr_rm d mc ms)) M.2.1 M.2.2.1 M.2.2.2.1 e s m args below meth c s₁) (hml : c.maxLocals = M.2.2.1) (hok : jx_Ok M c) (hv : jx_P D cl tx G.2.1 b G.2.2.1 G.2.2.2 sa ws tys sz As args s) :
    W p l e (headSpec (w0 :: jr_T) (jr_rm d mc ms)).room s m args below meth c s.heap [] 0 0 (vx_MQ below (jx_Q D cl b sa ws tys sz o h') (jx_X D cl b sa ws tys sz o h') args s mc ms (va_A ws sz)) (entryFrame m args M.2.2.1) := by
  obtain ⟨rfl, hsz, hK, hP, hD0, hKK⟩ := hv
  have hts := atoms_spec (ws := w0 :: jr_T) B.pre
  have hE : jr_E p c M.2.1 M.2.2.1 s As.toArray M.1.cls M.1.name m meth (jr_rm d mc ms) := ⟨B.exec, B.bytes, hml, fun w hw => hts w (List.mem_cons_of_mem _ hw), findClass_of_methodNamed B.named, (name_of_methodNamed B.named B.method).1, by show 10 ≤ 10 + d; omega, by show 300 ≤ 300 + 120 * d; omega⟩
  have hoM := hT M hM
  rw [lg_entry_eq]
  have hI : jr_I D cl (va_A ws sz) b sa s h s.heap [] ws tys := ⟨hK, hP, by rw [← hsz]; exact (hD0.self (sz := s.heap.size)), va_S.rf, hH⟩
  refine hWk d M 0 (jm_ent vs M.2.2.1) [] h o h' hM hrun p e (jr_rm d mc ms) s m As.toArray below meth c s.heap [] 0 0 _ _ [] D (va_A ws sz) tys ws b sa hE ⟨Nat.le_refl _, Nat.le_refl _⟩ hKK hok hI (jr_ent hvs hlen) trivial ⟨by show 0 + h'.2.1 ≤ mc + h.2.1; omega, by show 0 + h'.2.2 ≤ ms + h.2.2; omega⟩ ?_ ?_ ?_
  · intro ee v st' hee hret ho ws' tys' H' locs' ls' S' cells' slots' g1 g2 hI' hls hS' hc hs
    have e1 : cells' = mc := by omega
    have e2 : slots' = ms := by omega
    subst e1; subst e2
    exact jx_rets B.exec B.bytes B.returns B.notSynchronized hoM hsz hee hret ho g1 g2 hI' hS'
  · intro ee h1 hee hk6 hM0 ho hh ws' tys' H' locs' ls' cells' slots' g1 g2 hI' hls hc hs
    have hX : ∀ x ∈ c.exceptionTable.toList, False := by
      rcases hok with h9 | h9
      · exact h9.2
      · exact absurd hM0 h9.1
    exact jx_throws (G := G) (A0 := fun _ => True) B.exec B.bytes hl B.notSynchronized hE hKK hoM hX hsz hee hk6 ho hh g1 g2 hI' hls (by omega) (by omega) (Nat.le_refl _) (Nat.le_refl _)
  · intro E hM0 ho ws' tys' H' locs' ls' pc' rest cells' slots' q9 ce g1 g2 hI' hc hs hce hcv hcl
    have hX : ∀ x ∈ c.exceptionTable.toList, False := by
      rcases hok with h9 | h9
      · exact h9.2
      · exact absurd hM0 h9.1
    refine vx_outP (own := M.1.cls) hE.2.2.2.2.1 B.notSynchronized (fun z hz => (hX z hz).elim) hce hcv hcl (fun t ht hvm => ?_) hI'.2.2.2.1.2.2 (by omega) (by omega)
    obtain ⟨k1, k2⟩ := jx_back hsz g1 g2 hI' ht hvm
    exact ⟨⟨E, ws', ho, rfl, k1⟩, k2⟩
theorem jx_metx (hWk : jx_Walk G tb cl tx l n) (hl : l.stackTraces = false) (hT : ∀ M ∈ tb, jr_okM cl tx tb M) {d : Nat} {M : jm_M} {vs : List Value} {h : jm_H} {o : jm_O} {h' : jm_H} (hM : M ∈ tb) (hrun : jm_run G tb n d M 0 (jm_ent vs M.2.2.1) [] h = some (o, h')) (hlen : (jm_lay vs).length ≤ M.2.2.1)
    {D : va_G} {tys : List (ClassId × FieldType)} {ws : va_W} {b : Nat} {sa : Nat → Nat} {sz : Nat} {As : List Value} (hvs : jr_S b sa ws vs As) (hH : jr_H b sa ws tys h) {mc ms : Nat} (hmc : h'.2.1 = h.2.1 + mc) (hms : h'.2.2 = h.2.2 + ms) (hhs : M.2.2.2.2.1 = []) :
    vx_Met l M.1 (Cond.code M.1 M.2.1 M.2.2.1 M.2.2.2.1 :: jr_T) (jr_rm d mc ms) (jx_P D cl tx G.2.1 b G.2.2.1 G.2.2.2 sa ws tys sz As) (jx_Q D cl b sa ws tys sz o h') (jx_X D cl b sa ws tys sz o h') mc ms (va_A ws sz) :=
  vx_ofW (hT M hM).2.1.1 rfl (fun _ _ _ _ _ _ _ _ _ B hml hX hv => jx_body hWk hl hT hM hrun hlen hvs hH hmc hms B hml (Or.inl ⟨hhs, hX⟩) hv)
theorem jx_meth (hWk : jx_Walk G tb cl tx l n) (hl : l.stackTraces = false) (hT : ∀ M ∈ tb, jr_okM cl tx tb M) {d : Nat} {M : jm_M} {vs : List Value} {h : jm_H} {o : jm_O} {h' : jm_H} (hM : M ∈ tb) (hrun : jm_run G tb n d M 0 (jm_ent vs M.2.2.1) [] h = some (o, h')) (hlen : (jm_lay vs).length ≤ M.2.2.1)
    {D : va_G} {tys : List (ClassId × FieldType)} {ws : va_W} {b : Nat} {sa : Nat → Nat} {sz : Nat} {As : List Value} (hvs : jr_S b sa ws vs As) (hH : jr_H b sa ws tys h) {mc ms : Nat} (hmc : h'.2.1 = h.2.1 + mc) (hms : h'.2.2 = h.2.2 + ms) {hh : List (Nat × Nat × Nat × Nat)} (hhs : M.2.2.2.2.1 ≠ []) (hhh : jr_hh M.1.cls M.2.2.2.2.1 hh) :
    vx_Met l M.1 (Cond.codeWith M.1 M.2.1 M.2.2.1 M.2.2.2.1 hh :: jr_T) (jr_rm d mc ms) (jx_P D cl tx G.2.1 b G.2.2.1 G.2.2.2 sa ws tys sz As) (jx_Q D cl b sa ws tys sz o h') (jx_X D cl b sa ws tys sz o h') mc ms (va_A ws sz) :=
  vx_ofWH (hT M hM).2.1.1 rfl (fun _ _ _ _ _ _ _ _ _ B hml hv => jx_body hWk hl hT hM hrun hlen hvs hH hmc hms B hml (Or.inr ⟨hhs, hh, vx_table (x := M.1) B (atoms_spec (ws := Cond.codeWith M.1 M.2.1 M.2.2.1 M.2.2.2.1 hh :: jr_T) B.pre _ List.mem_cons_self), hhh⟩) hv)
theorem jx_metI {D : va_G} {tys : List (ClassId × FieldType)} {ws : va_W} {b : Nat} {sa : Nat → Nat} {sz : Nat} {v : Option Value} {h' : jm_H} {y : MethodName} {wl : List Cond} {rm : Room} {Pc : Array Value → State → Prop} {mc ms : Nat} {free : Addr → Prop}
    (hM : vx_Met l y wl rm Pc (jx_Q D cl b sa ws tys sz (.inl v) h') (jx_X D cl b sa ws tys sz (.inl v) h') mc ms free) : Met l y wl rm Pc (jx_Q D cl b sa ws tys sz (.inl v) h') mc ms free := by
  intro p e ha hc hk s m args below hf happ hP hK
  obtain ⟨k, o, h1, h2, h3, h4⟩ := hM p e ha hc hk s m args below hf happ hP hK
  refine ⟨k, o, h1, h2, h3, ?_⟩
  rcases h4 with h4 | ⟨q, -, E, ce, L, ⟨⟨k9, ws9, h9, -⟩, -⟩, -⟩
  · exact h4
  · cases h9
end JV
end
section
/-! every run of the abstract machine is one of the machine -/
section JV
variable {G : jm_G} {tb : List jm_M} {cl : List vw_C} {tx : List String} {l : Launch} {n : Nat}
theorem jm_kind5 {ee : jm_I} (h : jm_kind ee = 5) : (∃ i, ee.2.1 = .invokevirtual i) ∨ (∃ i, ee.2.1 = .invokestatic i) ∨ ∃ i, ee.2.1 = .invokespecial i := by
  obtain ⟨pc, i, np, x, y, z, w, u, bs⟩ := ee
  cases i <;> simp only [jm_kind] at h <;> first
    | exact Or.inl ⟨_, rfl⟩
    | exact Or.inr (Or.inl ⟨_, rfl⟩)
    | exact Or.inr (Or.inr ⟨_, rfl⟩)
    | (exfalso; revert h; decide)
    | (split at h <;> exfalso <;> revert h <;> decide)
theorem jr_take {b : Nat} {sa : Nat → Nat} {ws : va_W} {st S : List Value} (h : jr_S b sa ws st S) {k : Nat} (hk : k ≤ st.length) : S = (S.take k).reverse.reverse ++ S.drop k ∧ (S.take k).reverse.length = k ∧ jr_S b sa ws (st.take k).reverse (S.take k).reverse ∧ jr_S b sa ws (st.drop k) (S.drop k) := by
  refine ⟨by rw [List.reverse_reverse, List.take_append_drop], ?_, (h.take k).rev, h.drop k⟩
  rw [List.length_reverse, List.length_take, jr_S_len h]
  omega
/-- the call -/
theorem jx_runs (hWk : jx_Walk G tb cl tx l n) (hl : l.stackTraces = false) (hT : ∀ M ∈ tb, jr_okM cl tx tb M) (hcl50 : cl[50]? = none) (hC : jr_cls cl G)
    {p : Program} {e : Env} {R : Room} {s : State} {m : MethodId} {args : Array Value} {below : List Frame} {meth : Method} {c : Code} {H : Heap} {locs : List Loc} {cells slots : Nat} {ls : Array Slot} {S : List Value} {D : va_G} {A : Nat → Prop} {tys : List (ClassId × FieldType)} {ws : va_W} {b : Nat} {sa : Nat → Nat}
    {M : jm_M} {ee : jm_I} (hM : M ∈ tb) (hee : ee ∈ M.2.2.2.2.2.2) (hk5 : jm_kind ee = 5) {d : Nat} {M' : jm_M} {st : List Value} {L : jm_L} {h : jm_H} {o : jm_O} {h1 : jm_H} (htb : tb[ee.2.2.2.1]? = some M') (c1 : M'.2.2.2.2.2.1 ≤ st.length) (c2 : jm_rcv G h ee.2.1 ee.2.2.2.2.2.1 (st.take M'.2.2.2.2.2.1).reverse = true) (c3 : jm_lt (st.drop M'.2.2.2.2.2.1) = true) (c4 : (jm_lay (st.take M'.2.2.2.2.2.1).reverse).length ≤ M'.2.2.1)
    (hrun : jm_run G tb n d M' 0 (jm_ent (st.take M'.2.2.2.2.2.1).reverse M'.2.2.1) [] h = some (o, h1))
    (hE : jr_E p c M.2.1 M.2.2.1 s args M.1.cls M.1.name m meth R) (hR : 10 + (d + 1) ≤ R.frames ∧ 300 + 120 * (d + 1) ≤ R.locals) (hK : jr_K tx G.2.1 b G.2.2.1 G.2.2.2 sa A s) (hI : jr_I D cl A b sa s h H locs ws tys) (hL : ls.size = M.2.2.1) (hS : jr_S b sa ws st S) {mc ms : Nat} (hmc : h1.2.1 = h.2.1 + mc) (hms : h1.2.2 = h.2.2 + ms) (hroom : cells + mc ≤ R.cells ∧ slots + ms ≤ R.slots) (hsp : jm_sp ee.2.1 = true → ∃ v, o = .inl v) :
    (jm_sp ee.2.1 = true ∧ va_Run p l e R s m args below meth c H locs cells slots mc ms (F0 m ee.1 ls S) (S.drop M'.2.2.2.2.2.1) (jx_Q D cl b sa ws tys H.size o h1 (S.take M'.2.2.2.2.2.1).reverse.toArray) (va_A ws H.size)) ∨
    (vx_Run p l e R s m args below meth c H locs cells slots mc ms (F0 m ee.1 ls S) (S.drop M'.2.2.2.2.2.1) (jx_Q D cl b sa ws tys H.size o h1 (S.take M'.2.2.2.2.2.1).reverse.toArray) (jx_X D cl b sa ws tys H.size o h1) (va_A ws H.size)) := by
  have hM' : M' ∈ tb := List.mem_of_getElem? htb
  have hok := hT M hM
  have hok' := hT M' hM'
  obtain ⟨hd0, hnp, -⟩ := jr_okM_code hok hee
  obtain ⟨Wd, hWd, hall⟩ := hok.1
  have hokb := (hall ee hee).1
  obtain ⟨hx, hb, hml, hts, hown, hnm, hRf, hRl⟩ := hE
  obtain ⟨t1, t2, t3, t4⟩ := jr_take hS c1
  have hw8 : (((S.drop M'.2.2.2.2.2.1).map fun v => v.category)).sum ≤ 8 := by
    rw [jr_S_w t4]; exact of_decide_eq_true c3
  have hW8 : 2 * (F0 m ee.1 ls S).monitorRoom + (((S.drop M'.2.2.2.2.2.1).map fun v => v.category)).sum ≤ 8 := by
    show 2 * 0 + _ ≤ 8
    omega
  have hfix : CallFix p m c M.2.1 M.2.2.1 s args jr_T M.1.cls := ⟨hx, hb, hml, hown, hts⟩
  obtain ⟨hI1, hI2, hI3, hI4, hI5⟩ := id hI
  have hpre : ∀ U : State, U.heap = H → s.WarmedH U.vm → jx_P D cl tx G.2.1 b G.2.2.1 G.2.2.2 sa ws tys H.size (S.take M'.2.2.2.2.2.1).reverse (S.take M'.2.2.2.2.2.1).reverse.toArray U := fun U hU hW =>
    ⟨rfl, by rw [hU], va_K.moved hW.alike hI1, by rw [hU]; exact hI2, jx_trueD hI3, hK.next hI4 hI3 hW hU⟩
  obtain ⟨-, ⟨hpl, hmh, hvh⟩, hini, hL100, htabs, hkinds, hvoid⟩ := hok'
  have hRd : (jr_rm d mc ms).frames + 1 ≤ R.frames ∧ 8 + (M'.2.2.1 + 11) + (jr_rm d mc ms).locals ≤ R.locals := ⟨by show 10 + d + 1 ≤ _; omega, by show 8 + (M'.2.2.1 + 11) + (300 + 120 * d) ≤ _; omega⟩
  have hst9 : (F0 m ee.1 ls S).stack = (S.take M'.2.2.2.2.2.1).reverse.reverse ++ S.drop M'.2.2.2.2.2.1 := t1
  rcases jm_kind5 hk5 with ⟨idx, hi⟩ | ⟨idx, hi⟩ | ⟨idx, hi⟩
  · -- invokevirtual
    right
    obtain ⟨pc, i, np, x, y, z, w, u, bs⟩ := ee
    dsimp only at hi
    subst hi
    dsimp only at htb c2 hst9 hd0 hnp ⊢
    have hd : decode M.2.1 pc = .ok (.invokevirtual idx, 3) := by
      have e1 : np - pc = 3 := by simp only [jm_il] at hnp; omega
      rw [← e1]; exact hd0
    simp only [jm_okb, Bool.and_eq_true, decide_eq_true_eq, htb] at hokb
    obtain ⟨-, -, -, q1, q2, q3, q4, q5⟩ := hokb
    have hmi : M'.2.2.2.1 = M'.2.2.2.1 := rfl
    have hcode : Cond.code M'.1 M'.2.1 M'.2.2.1 M'.2.2.2.1 ∈ jr_T := by
      rcases htabs with h9 | h9
      · exact h9.2
      · exact absurd q4 h9.1
    have hpn : jm_pn M' ≠ some M'.2.2.2.2.2.1 := fun h9 => by
      rw [h9] at q5
      simp at q5
    obtain ⟨hin, hsel, -⟩ : Cond.instanceMethod M'.1 ∈ jr_T ∧ Cond.selects M'.1.cls M'.1 M'.1 ∈ jr_T ∧ True := by
      rcases hkinds with h9 | h9
      · exact absurd h9.2 hpn
      · exact ⟨h9.1, h9.2.1.resolve_left q3, trivial⟩
    obtain ⟨b', As', hAs, hrecv⟩ : ∃ (b' : Nat) (As' : List Value), (S.take M'.2.2.2.2.2.1).reverse = .ref b' :: As' ∧ ∃ cellB : Cell, H[b']? = some cellB ∧ cellB.vm.isStatics = false ∧ s.vm.findClass M'.1.cls = some cellB.cls := by
      unfold jm_rcv at c2
      generalize (st.take M'.2.2.2.2.2.1).reverse = vs at c2 t3
      generalize (S.take M'.2.2.2.2.2.1).reverse = As at t3
      dsimp only at c2
      split at c2
      next a r =>
        split at c2
        next c0 fs0 ha =>
          have c2 := of_decide_eq_true c2
          subst c2
          obtain ⟨w1, R1, hw1, rfl, -⟩ := jr_S_r t3
          obtain ⟨Fs, hw2, -⟩ := hI5.obj ha hw1
          obtain ⟨a1, e1⟩ := w1
          dsimp only at hw2
          cases hw2
          obtain ⟨q', hq', -⟩ := hI2 _ _ hw1
          have hz : ¬ c0 = 50 := fun h9 => by rw [h9, hcl50] at hq'; cases hq'
          rw [if_neg hz, hq'] at q2
          have e9 : q'.1 = M'.1.cls := Option.some.inj q2
          refine ⟨a1, R1, rfl, ?_⟩
          rw [← e9]
          exact va_recv hI1 hI2 hq' hw1
        next => cases c2
      next kk r =>
        have c2 := of_decide_eq_true c2
        obtain ⟨rfl, hk2⟩ := c2
        rw [if_pos rfl] at q2
        obtain ⟨V, R1, rfl, hV, -⟩ := jr_S_c t3
        have hV : V = .ref (sa kk) := hV
        subst hV
        refine ⟨_, R1, rfl, ?_⟩
        rw [q2]
        exact vk_recv hK.2.2.2.1 hk2 hI4
      next => cases c2
    rw [hAs] at hpre hst9 t2 t3 ⊢
    have hlk : Cond.methodLink M.1.cls idx M'.1 ∈ jr_T := jr_g (hWd _ (List.mem_of_getElem? q1)) rfl
    have hn' : (parseMethodDescriptor M'.1.desc).map (fun d => d.parameters.length) = some As'.length := by
      have q5' : (jm_pn M').map (· + 1) = some (As'.length + 1) := by rw [q5, ← t2]; rfl
      obtain ⟨k9, e8, e9⟩ := Option.map_eq_some_iff.mp q5'
      have e10 : k9 = As'.length := by simpa using e9
      rw [← e10]; exact e8
    have hst10 : (F0 m pc ls S).stack = As'.reverse ++ .ref b' :: S.drop M'.2.2.2.2.2.1 := hst9.trans (by simp)
    refine vx_runV (C := M'.1.cls) (As := As') (b := b') hfix (jx_metx hWk hl hT hM' hrun c4 t3 hI5 hmc hms q4) (cwV As'.length hts (jr_good fun w hw => ?_) rfl rfl rfl ⟨rfl, hmh, hvh, hn'⟩ hRd) ⟨jx_P_blind, hrecv, hpre⟩ rfl rfl hL hst10 hW8 hd hroom
    simp only [wsV, List.mem_append, List.mem_cons, List.not_mem_nil, or_false] at hw
    rcases hw with (rfl | rfl | rfl | rfl) | rfl | hw
    · exact hlk
    · exact hin
    · exact hsel
    · exact hini
    · exact hcode
    · exact hw
  · -- invokestatic
    right
    obtain ⟨pc, i, np, x, y, z, w, u, bs⟩ := ee
    dsimp only at hi
    subst hi
    dsimp only at htb c2 hst9 hd0 hnp hk5 ⊢
    have hd : decode M.2.1 pc = .ok (.invokestatic idx, 3) := by
      have e1 : np - pc = 3 := by simp only [jm_il] at hnp; omega
      rw [← e1]; exact hd0
    have hx1000 : x < 1000 := by
      simp only [jm_kind] at hk5
      split at hk5
      next h9 => exact h9
      next => exact absurd hk5 (by decide)
    simp only [jm_okb, Bool.and_eq_true, decide_eq_true_eq, htb] at hokb
    obtain ⟨-, -, -, hokb⟩ := hokb
    rw [if_neg (by omega), if_neg (by omega), if_neg (by omega), if_neg (by omega)] at hokb
    simp only [Bool.and_eq_true, decide_eq_true_eq] at hokb
    obtain ⟨q1, q5⟩ := hokb
    have hlk : Cond.methodLink M.1.cls idx M'.1 ∈ jr_T := jr_g (hWd _ (List.mem_of_getElem? q1)) rfl
    have hstat : Cond.static M'.1 ∈ jr_T := by
      rcases hkinds with h9 | h9
      · exact h9.1
      · have h9 := h9.2.2
        rw [q5] at h9
        simp at h9
    have hn' : (parseMethodDescriptor M'.1.desc).map (fun d => d.parameters.length) = some M'.2.2.2.2.2.1 := q5
    rcases htabs with ⟨hhs, hcode⟩ | ⟨hhs, hh, hcode, hhh⟩
    · refine vx_runS (As := (S.take M'.2.2.2.2.2.1).reverse) hfix (jx_metx hWk hl hT hM' hrun c4 t3 hI5 hmc hms hhs) (va_cwS M'.2.2.2.2.2.1 hts (jr_good fun w hw => ?_) rfl rfl rfl ⟨hmh, hvh, hn'⟩ hRd) ⟨jx_P_blind, hpre⟩ rfl t2 hL hst9 hW8 hd hroom
      simp only [va_wsS, List.mem_append, List.mem_cons, List.not_mem_nil, or_false] at hw
      rcases hw with (rfl | rfl | rfl) | rfl | hw
      · exact hlk
      · exact hstat
      · exact hini
      · exact hcode
      · exact hw
    · refine vx_runSX (As := (S.take M'.2.2.2.2.2.1).reverse) hfix (jx_meth hWk hl hT hM' hrun c4 t3 hI5 hmc hms hhs hhh) (vx_cwSW M'.2.2.2.2.2.1 hts (jr_good fun w hw => ?_) rfl rfl rfl ⟨hmh, hvh, hn'⟩ hRd) ⟨jx_P_blind, hpre⟩ rfl t2 hL hst9 hW8 hd hroom
      simp only [va_wsS, List.mem_append, List.mem_cons, List.not_mem_nil, or_false] at hw
      rcases hw with (rfl | rfl | rfl) | rfl | hw
      · exact hlk
      · exact hstat
      · exact hini
      · exact hcode
      · exact hw
  · -- invokespecial
    left
    obtain ⟨pc, i, np, x, y, z, w, u, bs⟩ := ee
    dsimp only at hi
    subst hi
    dsimp only at htb c2 hst9 hd0 hnp hk5 hsp ⊢
    refine ⟨rfl, ?_⟩
    obtain ⟨v9, ho⟩ := hsp rfl
    subst ho
    have hd : decode M.2.1 pc = .ok (.invokespecial idx, 3) := by
      have e1 : np - pc = 3 := by simp only [jm_il] at hnp; omega
      rw [← e1]; exact hd0
    have hx1000 : x < 1000 := by
      simp only [jm_kind] at hk5
      split at hk5
      next h9 => exact h9
      next => exact absurd hk5 (by decide)
    simp only [jm_okb, Bool.and_eq_true, decide_eq_true_eq, htb] at hokb
    obtain ⟨-, -, -, hokb⟩ := hokb
    rw [if_neg (by omega)] at hokb
    simp only [Bool.and_eq_true, decide_eq_true_eq] at hokb
    obtain ⟨q1, q3, q4, q5⟩ := hokb
    have hlk : Cond.methodLink M.1.cls idx M'.1 ∈ jr_T := jr_g (hWd _ (List.mem_of_getElem? q1)) rfl
    have hcode : Cond.code M'.1 M'.2.1 M'.2.2.1 M'.2.2.2.1 ∈ jr_T := by
      rcases htabs with h9 | h9
      · exact h9.2
      · exact absurd q4 h9.1
    have hin : Cond.instanceMethod M'.1 ∈ jr_T := by
      rcases hkinds with h9 | h9
      · have h9 := h9.2
        rw [h9] at q5
        simp at q5
      · exact h9.1
    have hn1 : (jm_pn M').map (· + 1) = some (S.take M'.2.2.2.2.2.1).reverse.length := by rw [q5, t2]
    obtain ⟨b', As', hAs⟩ : ∃ (b' : Nat) (As' : List Value), (S.take M'.2.2.2.2.2.1).reverse = .ref b' :: As' := by
      unfold jm_rcv at c2
      generalize (st.take M'.2.2.2.2.2.1).reverse = vs at c2 t3
      generalize (S.take M'.2.2.2.2.2.1).reverse = As at t3
      dsimp only at c2
      split at c2
      next a r =>
        obtain ⟨w1, R1, hw1, rfl, -⟩ := jr_S_r t3
        exact ⟨_, _, rfl⟩
      next => cases c2
    rw [hAs] at hpre hst9 t2 t3 hn1 ⊢
    have hn' : (parseMethodDescriptor M'.1.desc).map (fun d => d.parameters.length) = some As'.length := by
      obtain ⟨k9, e8, e9⟩ := Option.map_eq_some_iff.mp hn1
      have e10 : k9 = As'.length := by simpa using e9
      rw [← e10]; exact e8
    have hst10 : (F0 m pc ls S).stack = As'.reverse ++ .ref b' :: S.drop M'.2.2.2.2.2.1 := hst9.trans (by simp)
    have hv0 := hvoid q3
    have hmet := jx_metI (jx_metx hWk hl hT hM' hrun c4 t3 (D := D) (tx := tx) (sz := H.size) hI5 hmc hms q4)
    rw [hv0] at hmet hcode
    refine va_runI (As := As') (b := b') hfix hmet (cwI As'.length hts (jr_good fun w hw => ?_) rfl rfl rfl (hts _ hini) (hts _ hlk) (hts _ hin) q3 ⟨hmh, hvh, hn'⟩ hRd) ⟨jx_P_blind, hpre⟩ rfl rfl hL hst10 hW8 hd hroom
    simp only [List.mem_cons] at hw
    rcases hw with rfl | hw
    · exact hcode
    · exact hw
end JV
end
section
/-! the walk, by induction on the fuel -/
section JV
variable {G : jm_G} {tb : List jm_M} {cl : List vw_C} {tx : List String} {l : Launch}
theorem jr_I_back {p : Program} {s : State} {H : Heap} {locs : List Loc} {D : va_G} {A : Nat → Prop} {tys : List (ClassId × FieldType)} {ws ws' : va_W} {b : Nat} {sa : Nat → Nat} {h h1 : jm_H} {st₀ t : State} {H1 : Heap} {L1 : List Loc} (hK : jr_K tx G.2.1 b G.2.2.1 G.2.2.2 sa A s) (hI : jr_I D cl A b sa s h H locs ws tys) (e1 : t.heap = H1) (hvm : s.vm.Alike t.vm) (h0 : st₀.heap = H) (hB : jx_B D cl b sa ws tys H.size h1 t ws') (hF : va_F (va_A ws H.size) st₀ t) (hL1 : ∀ q ∈ L1, va_A ws H.size q.base) :
    ∃ tys', jr_le ws ws' ∧ (∀ q ∈ tys, q ∈ tys') ∧ jr_I D cl A b sa s h1 H1 (locs ++ L1) ws' tys' := by
  obtain ⟨hI1, hI2, hI3, hI4, hI5⟩ := hI
  obtain ⟨tys', g1, g2, k1, k2, k3, k4⟩ := hB
  have hA := jr_A_of hK.1 hI4 hI3
  subst e1
  have hk := (vx_keep (T' := t) h0 rfl hI4 (fun q _ h9 => hA q h9) hA hL1 hF).2.2
  exact ⟨tys', g1, g2, va_K.moved hvm.symm k1, k2, k3.weaken (fun k q hk9 h9 => hA q.1 h9), hk, k4⟩
theorem jm_il3 {i : Instr} (n : Nat) (h : (∃ k, i = .invokevirtual k) ∨ (∃ k, i = .invokestatic k) ∨ ∃ k, i = .invokespecial k) : jm_il i n = 3 := by
  rcases h with ⟨k, rfl⟩ | ⟨k, rfl⟩ | ⟨k, rfl⟩ <;> rfl
theorem jr_catch {p : Program} {e : Env} {R : Room} {s : State} {m : MethodId} {args : Array Value} {below : List Frame} {meth : Method} {c : Code} {H : Heap} {locs : List Loc} {cells slots : Nat} {Q : State → Prop} {ls : Array Slot} {rest : List Value} {A : Nat → Prop} {b : Nat} {sa : Nat → Nat}
    {M : jm_M} {pc E hp : Nat} (hhp : jm_hnd M.2.2.2.2.1 pc E = some hp) (hOk : jx_Ok M c) (hown : s.vm.findClass M.1.cls = some m.cls) (hts : ∀ w ∈ jr_T, w.before args s = true) (hK : jr_K tx G.2.1 b G.2.2.1 G.2.2.2 sa A s) {q9 : Addr} {ce : Cell} (hce : H[q9]? = some ce) (hcv : ce.vm = .none) (hcl : s.vm.findClass (jr_exn E) = some ce.cls)
    (kk : W p l e R s m args below meth c H locs cells slots Q (F0 m hp ls [.ref q9])) : vx_W p l e R s m args below meth c H locs cells slots Q (F0 m pc ls rest) q9 := by
  obtain ⟨-, -, -, -, -, -, -, hCa, hCb, hNc⟩ := hK
  have hca : ∀ k, k < 2 → (Cond.castable (jr_exn k) (jr_exn k)).before args s = true := fun k hk => by
    have : k = 0 ∨ k = 1 := by omega
    rcases this with rfl | rfl
    · exact hCa.use
    · exact hCb.use
  rcases hOk with ⟨h0, -⟩ | ⟨-, hh, htab, ⟨f, t, hp0, k, ct, e1, e2, hk2, hct, hlk⟩ | ⟨f, t, hp0, hp1, ct0, ct1, e1, e2, hct0, hct1, hlk0, hlk1⟩⟩
  · rw [h0] at hhp; cases hhp
  · rw [e1] at hhp
    simp only [jm_hnd] at hhp
    split at hhp
    next hc =>
      obtain ⟨hc1, hc2, rfl⟩ := hc
      cases hhp
      exact vx_catch (own := M.1.cls) (name := jr_exn k) hown [] ⟨f, t, hp, ct⟩ [] (by rw [htab, e2]; rfl) (fun z hz => by cases hz) (by simp [covers, hc1, hc2]) hct (hts _ hlk) (hca k hk2) hce hcv hcl kk
    next => cases hhp
  · rw [e1] at hhp
    simp only [jm_hnd] at hhp
    split at hhp
    next hc =>
      obtain ⟨hc1, hc2, rfl⟩ := hc
      cases hhp
      exact vx_catch (own := M.1.cls) (name := jr_NSE) hown [] ⟨f, t, hp, ct0⟩ [⟨f, t, hp1, ct1⟩] (by rw [htab, e2]; rfl) (fun z hz => by cases hz) (by simp [covers, hc1, hc2]) hct0 (hts _ hlk0) (hca 0 (by decide)) hce hcv hcl kk
    next =>
      split at hhp
      next hc =>
        obtain ⟨hc1, hc2, rfl⟩ := hc
        cases hhp
        refine vx_catch (own := M.1.cls) (name := jr_IAE) hown [⟨f, t, hp0, ct0⟩] ⟨f, t, hp, ct1⟩ [] (by rw [htab, e2]; rfl) (fun z hz => ?_) (by simp [covers, hc1, hc2]) hct1 (hts _ hlk1) (hca 1 (by decide)) hce hcv hcl kk
        rw [List.mem_singleton] at hz
        subst hz
        exact Or.inr ⟨hct0, jr_NSE, hts _ hlk0, hNc⟩
      next => cases hhp
set_option maxHeartbeats 4000000 in
theorem jx_walk (hC : jr_cls cl G) (hcl50 : cl[50]? = none) (hl : l.stackTraces = false) (hT : ∀ M ∈ tb, jr_okM cl tx tb M) : ∀ n, jx_Walk G tb cl tx l n := by
  intro n
  induction n with
  | zero => intro d M pc L st h o h' hM hrun; cases hrun
  | succ n ih =>
    intro d M pc L0 st h o h' hM hrun p e R s m args below meth c H locs cells slots Q ls S D A tys ws b sa hE hR hK hOk hI hL0 hS hroom kE kT kX
    obtain ⟨ee, L, hat, hLeq, hcase⟩ := jm_run_succ hrun
    obtain ⟨hee, hpc⟩ := jm_at_inv hat
    subst hpc
    have hok := hT M hM
    obtain ⟨-, hnp, hmask⟩ := jr_okM_code hok hee
    have hL : jr_L b sa ws L ls M.2.2.1 := by
      rw [hLeq]
      split
      next => exact hL0
      next h9 => exact hL0.masked (hmask.resolve_left h9)
    have go : ∀ (pc2 : Nat) (L2 : jm_L) (st2 : List Value) (h2 : jm_H), jm_run G tb n d M pc2 L2 st2 h2 = some (o, h') → ∀ (ws' : va_W) (tys' : List (ClassId × FieldType)) (H' : Heap) (locs' : List Loc) (ls' : Array Slot) (S' : List Value) (cells' slots' : Nat), jr_le ws ws' → (∀ t ∈ tys, t ∈ tys') → jr_I D cl A b sa s h2 H' locs' ws' tys' → jr_L b sa ws' L2 ls' M.2.2.1 → jr_S b sa ws' st2 S' → cells' + h.2.1 = cells + h2.2.1 → slots' + h.2.2 = slots + h2.2.2 → W p l e R s m args below meth c H' locs' cells' slots' Q (F0 m pc2 ls' S') := by
      intro pc2 L2 st2 h2 hrest ws' tys' H' locs' ls' S' cells' slots' g1 g2 hI' hL' hS' hc hs
      refine ih d M pc2 L2 st2 h2 o h' hM hrest p e R s m args below meth c H' locs' cells' slots' Q ls' S' D A tys' ws' b sa hE hR hK hOk hI' hL' hS' ⟨by omega, by omega⟩ ?_ ?_ ?_
      · intro ee v st' a1 a2 a3 ws2 tys2 H2 locs2 ls2 S2 cells2 slots2 b1 b2 b3 b4 b5 b6 b7
        exact kE ee v st' a1 a2 a3 ws2 tys2 H2 locs2 ls2 S2 cells2 slots2 (g1.tr b1) (fun t ht => b2 t (g2 t ht)) b3 b4 b5 (by omega) (by omega)
      · intro ee h1 a1 a2 a3 a4 a5 ws2 tys2 H2 locs2 ls2 cells2 slots2 b1 b2 b3 b4 b6 b7
        exact kT ee h1 a1 a2 a3 a4 a5 ws2 tys2 H2 locs2 ls2 cells2 slots2 (g1.tr b1) (fun t ht => b2 t (g2 t ht)) b3 b4 (by omega) (by omega)
      · intro E a1 a2 ws2 tys2 H2 locs2 ls2 pc9 rest9 cells2 slots2 q9 ce b1 b2 b3 b4 b5 b6 b7 b8
        exact kX E a1 a2 ws2 tys2 H2 locs2 ls2 pc9 rest9 cells2 slots2 q9 ce (g1.tr b1) (fun t ht => b2 t (g2 t ht)) b3 (by omega) (by omega) b6 b7 b8
    rcases hcase with ⟨hk0, q, hst, hrest⟩ | ⟨hk5, d', M', o1, h1, hd, htb, c1, c2, c3, c4, hr1, hgo⟩ | ⟨hk6, hM0, hst0, hr⟩ | ⟨v, hret, hr⟩
    · obtain ⟨Wd, hWd, hall⟩ := hok.1
      have hmono := jm_run_mono hrest
      dsimp only at hmono
      refine jr_step hE hK hC hcl50 hk0 hWd (hall ee hee).1 hst hI hL hS ⟨by omega, by omega⟩ ?_
      intro ws' tys' H' locs' ls' S' cells' slots' g1 g2 hI' hL' hS' hc hs
      exact go _ _ _ _ hrest ws' tys' H' locs' ls' S' cells' slots' g1 g2 hI' hL' hS' hc hs
    · subst hd
      have hm1 := jm_run_mono hr1
      dsimp only at hm1
      obtain ⟨mc, hmc⟩ : ∃ mc, h1.2.1 = h.2.1 + mc := ⟨h1.2.1 - h.2.1, by omega⟩
      obtain ⟨ms, hms⟩ : ∃ ms, h1.2.2 = h.2.2 + ms := ⟨h1.2.2 - h.2.2, by omega⟩
      have hnp3 : ee.2.2.1 = ee.1 + 3 := by rw [jm_il3 _ (jm_kind5 hk5)] at hnp; exact hnp
      have hm2 : h1.2.1 ≤ h'.2.1 ∧ h1.2.2 ≤ h'.2.2 := by
        rcases hgo with ⟨v, -, h2⟩ | ⟨E, -, -, ⟨hp, -, h2⟩ | ⟨-, h2⟩⟩
        · exact jm_run_mono h2
        · exact jm_run_mono h2
        · cases h2; exact ⟨Nat.le_refl _, Nat.le_refl _⟩
      obtain ⟨-, -, -, t4⟩ := jr_take hS c1
      have hsp : jm_sp ee.2.1 = true → ∃ v, o1 = .inl v := fun h9 => by
        rcases hgo with ⟨v, h2, -⟩ | ⟨E, -, h2, -⟩
        · exact ⟨v, h2⟩
        · rw [h9] at h2; cases h2
      have hrr := jx_runs ih hl hT hcl50 hC (p := p) (e := e) (below := below) (meth := meth) (c := c) (D := D) (cells := cells) (slots := slots) (locs := locs) hM hee hk5 (L := L) htb c1 c2 c3 c4 hr1 hE hR hK hI hL.2.1 hS hmc hms ⟨by omega, by omega⟩ hsp
      have hback : ∀ (v : Option Value) (st₀ t : State) (H1 : Heap) (L1 : List Loc), t.heap = H1 → s.vm.Alike t.vm → st₀.heap = H → jx_Q D cl b sa ws tys H.size o1 h1 (S.take M'.2.2.2.2.2.1).reverse.toArray st₀ (.returned v) t → (∀ q ∈ L1, va_A ws H.size q.base) → W p l e R s m args below meth c H1 (locs ++ L1) (cells + mc) (slots + ms) Q (F0 m (ee.1 + 3) ls (v.toList ++ S.drop M'.2.2.2.2.2.1)) := by
        intro v st₀ t H1 L1 e1 hvm h0 hq hL1
        obtain ⟨⟨v1, V, ws', ho1, hV, hvV, hB⟩, hF⟩ := hq
        cases hV
        obtain ⟨tys', g1, g2, hI'⟩ := jr_I_back (p := p) hK hI e1 hvm h0 hB hF hL1
        rcases hgo with ⟨v2, h2, hrest⟩ | ⟨E, h2, -⟩
        · rw [h2] at ho1
          cases ho1
          rw [hnp3] at hrest
          exact go _ _ _ _ hrest ws' tys' H1 _ ls _ _ _ g1 g2 hI' (hL.mono g1) (hvV.app (t4.mono g1)) (by omega) (by omega)
        · rw [h2] at ho1; cases ho1
      rcases hrr with ⟨-, hr9⟩ | hr9
      · exact jx_callI hr9 hback
      · refine jx_call hr9 ?_ hback
        intro E ce q9 st₀ t H1 L1 e1 hvm h0 hXX hL1 hce hcv hcl
        obtain ⟨⟨k, ws', ho1, rfl, hB⟩, hF⟩ := hXX
        obtain ⟨tys', g1, g2, hI'⟩ := jr_I_back (p := p) hK hI e1 hvm h0 hB hF hL1
        rcases hgo with ⟨v2, h2, hrest⟩ | ⟨E, h2, -, ⟨hp, hhp, hrest⟩ | ⟨hM0, hr⟩⟩
        · rw [h2] at ho1; cases ho1
        · rw [h2] at ho1
          cases ho1
          refine jr_catch hhp hOk hE.2.2.2.2.1 hE.2.2.2.1 hK hce hcv hcl ?_
          exact go _ _ _ _ hrest ws' tys' H1 _ ls _ _ _ g1 g2 hI' (hL.mono g1) ⟨Or.inr ⟨by decide, Or.inr ⟨_, rfl⟩⟩, trivial⟩ (by omega) (by omega)
        · rw [h2] at ho1
          cases ho1
          cases hr
          exact kX _ hM0 rfl ws' tys' H1 _ ls _ _ _ _ q9 ce g1 g2 hI' (by omega) (by omega) hce hcv hcl
    · cases hr
      subst hst0
      cases S with
      | cons => exact hS.elim
      | nil =>
        dsimp only at hroom
        exact kT ee h hee hk6 hM0 rfl rfl ws tys H locs ls cells slots jr_le.rf (fun _ h => h) hI hL.2.1 (by dsimp only; omega) (by dsimp only; omega)
    · cases hr
      exact kE ee v st hee hret rfl ws tys H locs ls S cells slots jr_le.rf (fun _ h => h) hI hL.2.1 hS (by omega) (by omega)
end JV
end
