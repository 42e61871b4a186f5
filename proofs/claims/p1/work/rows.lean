section
-- ===== PART A: goes FIRST, ahead of the names: the tables' words, and 'selects' of the private methods out of them =====
/-- a private method of a class that the tables say can be made, by its rows of tables_1 -/
def lw_okq (q : MethodName × Nat) : Prop := (q.1.cls ≠ "java/lang/invoke/MethodHandle" ∧ q.1.cls ≠ "java/lang/invoke/VarHandle") ∧ Cond.instantiable q.1.cls q.2 ∈ tables_1 ∧ Cond.privateMethod q.1 ∈ tables_1 ∧ Cond.instanceMethod q.1 ∈ tables_1
theorem lw_p0 : lw_okq (⟨"SecondHelpings$Tape", "readToken", "(I)I"⟩, 13) := ⟨⟨by decide +kernel, by decide +kernel⟩, List.mem_of_getElem? (i := 34) (by decide +kernel), List.mem_of_getElem? (i := 562) (by decide +kernel), List.mem_of_getElem? (i := 563) (by decide +kernel)⟩
theorem lw_p1 : lw_okq (⟨"SecondHelpings$Tape", "addToken", "(IIJ)V"⟩, 13) := ⟨⟨by decide +kernel, by decide +kernel⟩, List.mem_of_getElem? (i := 34) (by decide +kernel), List.mem_of_getElem? (i := 575) (by decide +kernel), List.mem_of_getElem? (i := 576) (by decide +kernel)⟩
theorem lw_p2 : lw_okq (⟨"SecondHelpings$Tape", "tokenOfWord", "(J)I"⟩, 13) := ⟨⟨by decide +kernel, by decide +kernel⟩, List.mem_of_getElem? (i := 34) (by decide +kernel), List.mem_of_getElem? (i := 579) (by decide +kernel), List.mem_of_getElem? (i := 580) (by decide +kernel)⟩
theorem lw_p3 : lw_okq (⟨"SecondHelpings$TableReader", "readLine", "(LSecondHelpings$Tape;)Z"⟩, 4) := ⟨⟨by decide +kernel, by decide +kernel⟩, List.mem_of_getElem? (i := 299) (by decide +kernel), List.mem_of_getElem? (i := 587) (by decide +kernel), List.mem_of_getElem? (i := 588) (by decide +kernel)⟩
theorem lw_p4 : lw_okq (⟨"SecondHelpings$TableReader", "readPerson", "(LSecondHelpings$Tape;)Z"⟩, 4) := ⟨⟨by decide +kernel, by decide +kernel⟩, List.mem_of_getElem? (i := 299) (by decide +kernel), List.mem_of_getElem? (i := 591) (by decide +kernel), List.mem_of_getElem? (i := 592) (by decide +kernel)⟩
theorem lw_p5 : lw_okq (⟨"SecondHelpings$TableReader", "newName", "(LSecondHelpings$Tape;)Z"⟩, 4) := ⟨⟨by decide +kernel, by decide +kernel⟩, List.mem_of_getElem? (i := 299) (by decide +kernel), List.mem_of_getElem? (i := 600) (by decide +kernel), List.mem_of_getElem? (i := 601) (by decide +kernel)⟩
theorem lw_p6 : lw_okq (⟨"SecondHelpings$TableReader", "readDish", "(LSecondHelpings$Tape;)Z"⟩, 4) := ⟨⟨by decide +kernel, by decide +kernel⟩, List.mem_of_getElem? (i := 299) (by decide +kernel), List.mem_of_getElem? (i := 625) (by decide +kernel), List.mem_of_getElem? (i := 626) (by decide +kernel)⟩
theorem lw_p7 : lw_okq (⟨"SecondHelpings$TableReader", "readPlate", "(LSecondHelpings$Tape;)Z"⟩, 4) := ⟨⟨by decide +kernel, by decide +kernel⟩, List.mem_of_getElem? (i := 299) (by decide +kernel), List.mem_of_getElem? (i := 629) (by decide +kernel), List.mem_of_getElem? (i := 630) (by decide +kernel)⟩
theorem lw_p8 : lw_okq (⟨"SecondHelpings$TableReader", "readLaw", "(LSecondHelpings$Tape;)Z"⟩, 4) := ⟨⟨by decide +kernel, by decide +kernel⟩, List.mem_of_getElem? (i := 299) (by decide +kernel), List.mem_of_getElem? (i := 641) (by decide +kernel), List.mem_of_getElem? (i := 642) (by decide +kernel)⟩
theorem lw_p9 : lw_okq (⟨"SecondHelpings$TableReader", "readDogs", "(LSecondHelpings$Tape;)Z"⟩, 4) := ⟨⟨by decide +kernel, by decide +kernel⟩, List.mem_of_getElem? (i := 299) (by decide +kernel), List.mem_of_getElem? (i := 645) (by decide +kernel), List.mem_of_getElem? (i := 646) (by decide +kernel)⟩
theorem lw_p10 : lw_okq (⟨"SecondHelpings$Course", "eatUp", "(III)V"⟩, 14) := ⟨⟨by decide +kernel, by decide +kernel⟩, List.mem_of_getElem? (i := 208) (by decide +kernel), List.mem_of_getElem? (i := 736) (by decide +kernel), List.mem_of_getElem? (i := 737) (by decide +kernel)⟩
theorem lw_p11 : lw_okq (⟨"SecondHelpings", "keptIfDone", "(I)I"⟩, 15) := ⟨⟨by decide +kernel, by decide +kernel⟩, List.mem_of_getElem? (i := 26) (by decide +kernel), List.mem_of_getElem? (i := 741) (by decide +kernel), List.mem_of_getElem? (i := 742) (by decide +kernel)⟩
theorem lw_p12 : lw_okq (⟨"SecondHelpings$Course", "leastFed", "(I)I"⟩, 14) := ⟨⟨by decide +kernel, by decide +kernel⟩, List.mem_of_getElem? (i := 208) (by decide +kernel), List.mem_of_getElem? (i := 775) (by decide +kernel), List.mem_of_getElem? (i := 776) (by decide +kernel)⟩
theorem lw_p13 : lw_okq (⟨"SecondHelpings$Course", "firstBehind", "(II)I"⟩, 14) := ⟨⟨by decide +kernel, by decide +kernel⟩, List.mem_of_getElem? (i := 208) (by decide +kernel), List.mem_of_getElem? (i := 783) (by decide +kernel), List.mem_of_getElem? (i := 784) (by decide +kernel)⟩
theorem lw_p14 : lw_okq (⟨"SecondHelpings$Course", "endMeal", "()V"⟩, 14) := ⟨⟨by decide +kernel, by decide +kernel⟩, List.mem_of_getElem? (i := 208) (by decide +kernel), List.mem_of_getElem? (i := 820) (by decide +kernel), List.mem_of_getElem? (i := 821) (by decide +kernel)⟩
theorem lw_p15 : lw_okq (⟨"SecondHelpings", "keptIfAny", "(I)I"⟩, 15) := ⟨⟨by decide +kernel, by decide +kernel⟩, List.mem_of_getElem? (i := 26) (by decide +kernel), List.mem_of_getElem? (i := 824) (by decide +kernel), List.mem_of_getElem? (i := 825) (by decide +kernel)⟩
def lw_privs_1 : List (MethodName × Nat) := [(⟨"SecondHelpings$Tape", "readToken", "(I)I"⟩, 13), (⟨"SecondHelpings$Tape", "addToken", "(IIJ)V"⟩, 13), (⟨"SecondHelpings$Tape", "tokenOfWord", "(J)I"⟩, 13), (⟨"SecondHelpings$TableReader", "readLine", "(LSecondHelpings$Tape;)Z"⟩, 4), (⟨"SecondHelpings$TableReader", "readPerson", "(LSecondHelpings$Tape;)Z"⟩, 4), (⟨"SecondHelpings$TableReader", "newName", "(LSecondHelpings$Tape;)Z"⟩, 4), (⟨"SecondHelpings$TableReader", "readDish", "(LSecondHelpings$Tape;)Z"⟩, 4), (⟨"SecondHelpings$TableReader", "readPlate", "(LSecondHelpings$Tape;)Z"⟩, 4), (⟨"SecondHelpings$TableReader", "readLaw", "(LSecondHelpings$Tape;)Z"⟩, 4), (⟨"SecondHelpings$TableReader", "readDogs", "(LSecondHelpings$Tape;)Z"⟩, 4), (⟨"SecondHelpings$Course", "eatUp", "(III)V"⟩, 14), (⟨"SecondHelpings", "keptIfDone", "(I)I"⟩, 15), (⟨"SecondHelpings$Course", "leastFed", "(I)I"⟩, 14), (⟨"SecondHelpings$Course", "firstBehind", "(II)I"⟩, 14), (⟨"SecondHelpings$Course", "endMeal", "()V"⟩, 14), (⟨"SecondHelpings", "keptIfAny", "(I)I"⟩, 15)]
theorem lw_r1 : ∀ q ∈ lw_privs_1, lw_okq q := List.forall_mem_cons.mpr ⟨lw_p0, List.forall_mem_cons.mpr ⟨lw_p1, List.forall_mem_cons.mpr ⟨lw_p2, List.forall_mem_cons.mpr ⟨lw_p3, List.forall_mem_cons.mpr ⟨lw_p4, List.forall_mem_cons.mpr ⟨lw_p5, List.forall_mem_cons.mpr ⟨lw_p6, List.forall_mem_cons.mpr ⟨lw_p7, List.forall_mem_cons.mpr ⟨lw_p8, List.forall_mem_cons.mpr ⟨lw_p9, List.forall_mem_cons.mpr ⟨lw_p10, List.forall_mem_cons.mpr ⟨lw_p11, List.forall_mem_cons.mpr ⟨lw_p12, List.forall_mem_cons.mpr ⟨lw_p13, List.forall_mem_cons.mpr ⟨lw_p14, List.forall_mem_cons.mpr ⟨lw_p15, fun _ h => absurd h List.not_mem_nil⟩⟩⟩⟩⟩⟩⟩⟩⟩⟩⟩⟩⟩⟩⟩⟩
theorem lw_p16 : lw_okq (⟨"SecondHelpings$Order", "goOn", "(III)V"⟩, 5) := ⟨⟨by decide +kernel, by decide +kernel⟩, List.mem_of_getElem? (i := 392) (by decide +kernel), List.mem_of_getElem? (i := 864) (by decide +kernel), List.mem_of_getElem? (i := 865) (by decide +kernel)⟩
theorem lw_p17 : lw_okq (⟨"SecondHelpings$Guess", "countIn", "(I)V"⟩, 3) := ⟨⟨by decide +kernel, by decide +kernel⟩, List.mem_of_getElem? (i := 433) (by decide +kernel), List.mem_of_getElem? (i := 899) (by decide +kernel), List.mem_of_getElem? (i := 900) (by decide +kernel)⟩
theorem lw_p18 : lw_okq (⟨"SecondHelpings$Guess", "nearestToHalf", "(II)I"⟩, 3) := ⟨⟨by decide +kernel, by decide +kernel⟩, List.mem_of_getElem? (i := 433) (by decide +kernel), List.mem_of_getElem? (i := 903) (by decide +kernel), List.mem_of_getElem? (i := 904) (by decide +kernel)⟩
theorem lw_p19 : lw_okq (⟨"SecondHelpings", "writeName", "(J)V"⟩, 15) := ⟨⟨by decide +kernel, by decide +kernel⟩, List.mem_of_getElem? (i := 26) (by decide +kernel), List.mem_of_getElem? (i := 976) (by decide +kernel), List.mem_of_getElem? (i := 977) (by decide +kernel)⟩
theorem lw_p20 : lw_okq (⟨"SecondHelpings", "writeByte", "(I)V"⟩, 15) := ⟨⟨by decide +kernel, by decide +kernel⟩, List.mem_of_getElem? (i := 26) (by decide +kernel), List.mem_of_getElem? (i := 980) (by decide +kernel), List.mem_of_getElem? (i := 981) (by decide +kernel)⟩
theorem lw_p21 : lw_okq (⟨"SecondHelpings", "write", "(Ljava/lang/String;)V"⟩, 15) := ⟨⟨by decide +kernel, by decide +kernel⟩, List.mem_of_getElem? (i := 26) (by decide +kernel), List.mem_of_getElem? (i := 985) (by decide +kernel), List.mem_of_getElem? (i := 986) (by decide +kernel)⟩
theorem lw_p22 : lw_okq (⟨"SecondHelpings", "writeNumber", "(I)V"⟩, 15) := ⟨⟨by decide +kernel, by decide +kernel⟩, List.mem_of_getElem? (i := 26) (by decide +kernel), List.mem_of_getElem? (i := 992) (by decide +kernel), List.mem_of_getElem? (i := 993) (by decide +kernel)⟩
theorem lw_p23 : lw_okq (⟨"SecondHelpings$Course", "actByDraw", "(I)V"⟩, 14) := ⟨⟨by decide +kernel, by decide +kernel⟩, List.mem_of_getElem? (i := 208) (by decide +kernel), List.mem_of_getElem? (i := 1010) (by decide +kernel), List.mem_of_getElem? (i := 1011) (by decide +kernel)⟩
theorem lw_p24 : lw_okq (⟨"SecondHelpings$Course", "draw", "(I)I"⟩, 14) := ⟨⟨by decide +kernel, by decide +kernel⟩, List.mem_of_getElem? (i := 208) (by decide +kernel), List.mem_of_getElem? (i := 1014) (by decide +kernel), List.mem_of_getElem? (i := 1015) (by decide +kernel)⟩
theorem lw_p25 : lw_okq (⟨"SecondHelpings$Book", "readLine", "(LSecondHelpings$Tape;LSecondHelpings$Table;)Z"⟩, 10) := ⟨⟨by decide +kernel, by decide +kernel⟩, List.mem_of_getElem? (i := 324) (by decide +kernel), List.mem_of_getElem? (i := 1035) (by decide +kernel), List.mem_of_getElem? (i := 1036) (by decide +kernel)⟩
theorem lw_p26 : lw_okq (⟨"SecondHelpings$Book", "readAct", "(LSecondHelpings$Tape;LSecondHelpings$Table;)Z"⟩, 10) := ⟨⟨by decide +kernel, by decide +kernel⟩, List.mem_of_getElem? (i := 324) (by decide +kernel), List.mem_of_getElem? (i := 1042) (by decide +kernel), List.mem_of_getElem? (i := 1043) (by decide +kernel)⟩
theorem lw_p27 : lw_okq (⟨"SecondHelpings$Book", "live", "(LSecondHelpings$Course;I)I"⟩, 10) := ⟨⟨by decide +kernel, by decide +kernel⟩, List.mem_of_getElem? (i := 324) (by decide +kernel), List.mem_of_getElem? (i := 1057) (by decide +kernel), List.mem_of_getElem? (i := 1058) (by decide +kernel)⟩
theorem lw_p28 : lw_okq (⟨"SecondHelpings$Sentence", "readCond", "(LSecondHelpings$Tape;LSecondHelpings$Table;I)Z"⟩, 6) := ⟨⟨by decide +kernel, by decide +kernel⟩, List.mem_of_getElem? (i := 366) (by decide +kernel), List.mem_of_getElem? (i := 1088) (by decide +kernel), List.mem_of_getElem? (i := 1089) (by decide +kernel)⟩
theorem lw_p29 : lw_okq (⟨"SecondHelpings$Sentence", "readAll", "(LSecondHelpings$Tape;LSecondHelpings$Table;I)Z"⟩, 6) := ⟨⟨by decide +kernel, by decide +kernel⟩, List.mem_of_getElem? (i := 366) (by decide +kernel), List.mem_of_getElem? (i := 1092) (by decide +kernel), List.mem_of_getElem? (i := 1093) (by decide +kernel)⟩
theorem lw_p30 : lw_okq (⟨"SecondHelpings$Sentence", "readOne", "(LSecondHelpings$Tape;LSecondHelpings$Table;I)Z"⟩, 6) := ⟨⟨by decide +kernel, by decide +kernel⟩, List.mem_of_getElem? (i := 366) (by decide +kernel), List.mem_of_getElem? (i := 1096) (by decide +kernel), List.mem_of_getElem? (i := 1097) (by decide +kernel)⟩
theorem lw_p31 : lw_okq (⟨"SecondHelpings$Sentence", "addStep", "(III)Z"⟩, 6) := ⟨⟨by decide +kernel, by decide +kernel⟩, List.mem_of_getElem? (i := 366) (by decide +kernel), List.mem_of_getElem? (i := 1106) (by decide +kernel), List.mem_of_getElem? (i := 1107) (by decide +kernel)⟩
def lw_privs_2 : List (MethodName × Nat) := [(⟨"SecondHelpings$Order", "goOn", "(III)V"⟩, 5), (⟨"SecondHelpings$Guess", "countIn", "(I)V"⟩, 3), (⟨"SecondHelpings$Guess", "nearestToHalf", "(II)I"⟩, 3), (⟨"SecondHelpings", "writeName", "(J)V"⟩, 15), (⟨"SecondHelpings", "writeByte", "(I)V"⟩, 15), (⟨"SecondHelpings", "write", "(Ljava/lang/String;)V"⟩, 15), (⟨"SecondHelpings", "writeNumber", "(I)V"⟩, 15), (⟨"SecondHelpings$Course", "actByDraw", "(I)V"⟩, 14), (⟨"SecondHelpings$Course", "draw", "(I)I"⟩, 14), (⟨"SecondHelpings$Book", "readLine", "(LSecondHelpings$Tape;LSecondHelpings$Table;)Z"⟩, 10), (⟨"SecondHelpings$Book", "readAct", "(LSecondHelpings$Tape;LSecondHelpings$Table;)Z"⟩, 10), (⟨"SecondHelpings$Book", "live", "(LSecondHelpings$Course;I)I"⟩, 10), (⟨"SecondHelpings$Sentence", "readCond", "(LSecondHelpings$Tape;LSecondHelpings$Table;I)Z"⟩, 6), (⟨"SecondHelpings$Sentence", "readAll", "(LSecondHelpings$Tape;LSecondHelpings$Table;I)Z"⟩, 6), (⟨"SecondHelpings$Sentence", "readOne", "(LSecondHelpings$Tape;LSecondHelpings$Table;I)Z"⟩, 6), (⟨"SecondHelpings$Sentence", "addStep", "(III)Z"⟩, 6)]
theorem lw_r2 : ∀ q ∈ lw_privs_2, lw_okq q := List.forall_mem_cons.mpr ⟨lw_p16, List.forall_mem_cons.mpr ⟨lw_p17, List.forall_mem_cons.mpr ⟨lw_p18, List.forall_mem_cons.mpr ⟨lw_p19, List.forall_mem_cons.mpr ⟨lw_p20, List.forall_mem_cons.mpr ⟨lw_p21, List.forall_mem_cons.mpr ⟨lw_p22, List.forall_mem_cons.mpr ⟨lw_p23, List.forall_mem_cons.mpr ⟨lw_p24, List.forall_mem_cons.mpr ⟨lw_p25, List.forall_mem_cons.mpr ⟨lw_p26, List.forall_mem_cons.mpr ⟨lw_p27, List.forall_mem_cons.mpr ⟨lw_p28, List.forall_mem_cons.mpr ⟨lw_p29, List.forall_mem_cons.mpr ⟨lw_p30, List.forall_mem_cons.mpr ⟨lw_p31, fun _ h => absurd h List.not_mem_nil⟩⟩⟩⟩⟩⟩⟩⟩⟩⟩⟩⟩⟩⟩⟩⟩
theorem lw_p32 : lw_okq (⟨"SecondHelpings$Sentence", "readPlainOne", "(LSecondHelpings$Tape;LSecondHelpings$Table;I)Z"⟩, 6) := ⟨⟨by decide +kernel, by decide +kernel⟩, List.mem_of_getElem? (i := 366) (by decide +kernel), List.mem_of_getElem? (i := 1110) (by decide +kernel), List.mem_of_getElem? (i := 1111) (by decide +kernel)⟩
theorem lw_p33 : lw_okq (⟨"SecondHelpings$Sentence", "thoseOf", "(LSecondHelpings$Course;I)I"⟩, 6) := ⟨⟨by decide +kernel, by decide +kernel⟩, List.mem_of_getElem? (i := 366) (by decide +kernel), List.mem_of_getElem? (i := 1132) (by decide +kernel), List.mem_of_getElem? (i := 1133) (by decide +kernel)⟩
theorem lw_p34 : lw_okq (⟨"SecondHelpings$Sentence", "holds", "(LSecondHelpings$Course;II)Z"⟩, 6) := ⟨⟨by decide +kernel, by decide +kernel⟩, List.mem_of_getElem? (i := 366) (by decide +kernel), List.mem_of_getElem? (i := 1136) (by decide +kernel), List.mem_of_getElem? (i := 1137) (by decide +kernel)⟩
theorem lw_p35 : lw_okq (⟨"SecondHelpings$Sentence", "compares", "(II)Z"⟩, 6) := ⟨⟨by decide +kernel, by decide +kernel⟩, List.mem_of_getElem? (i := 366) (by decide +kernel), List.mem_of_getElem? (i := 1142) (by decide +kernel), List.mem_of_getElem? (i := 1143) (by decide +kernel)⟩
theorem lw_p36 : lw_okq (⟨"java/lang/Throwable", "fillInStackTrace", "(I)Ljava/lang/Throwable;"⟩, 6) := ⟨⟨by decide +kernel, by decide +kernel⟩, List.mem_of_getElem? (i := 1206) (by decide +kernel), List.mem_of_getElem? (i := 1204) (by decide +kernel), List.mem_of_getElem? (i := 1205) (by decide +kernel)⟩
theorem lw_p37 : lw_okq (⟨"SecondHelpingsModel", "come", "(I)V"⟩, 51) := ⟨⟨by decide +kernel, by decide +kernel⟩, List.mem_of_getElem? (i := 1237) (by decide +kernel), List.mem_of_getElem? (i := 1406) (by decide +kernel), List.mem_of_getElem? (i := 1407) (by decide +kernel)⟩
theorem lw_p38 : lw_okq (⟨"SecondHelpingsModel", "begin", "(I)V"⟩, 51) := ⟨⟨by decide +kernel, by decide +kernel⟩, List.mem_of_getElem? (i := 1237) (by decide +kernel), List.mem_of_getElem? (i := 1418) (by decide +kernel), List.mem_of_getElem? (i := 1419) (by decide +kernel)⟩
theorem lw_p39 : lw_okq (⟨"SecondHelpingsModel", "take", "()I"⟩, 51) := ⟨⟨by decide +kernel, by decide +kernel⟩, List.mem_of_getElem? (i := 1237) (by decide +kernel), List.mem_of_getElem? (i := 1422) (by decide +kernel), List.mem_of_getElem? (i := 1423) (by decide +kernel)⟩
theorem lw_p40 : lw_okq (⟨"SecondHelpingsModel", "go", "()V"⟩, 51) := ⟨⟨by decide +kernel, by decide +kernel⟩, List.mem_of_getElem? (i := 1237) (by decide +kernel), List.mem_of_getElem? (i := 1426) (by decide +kernel), List.mem_of_getElem? (i := 1427) (by decide +kernel)⟩
theorem lw_p41 : lw_okq (⟨"SecondHelpingsModel", "tapeAt", "(I)I"⟩, 51) := ⟨⟨by decide +kernel, by decide +kernel⟩, List.mem_of_getElem? (i := 1237) (by decide +kernel), List.mem_of_getElem? (i := 1436) (by decide +kernel), List.mem_of_getElem? (i := 1437) (by decide +kernel)⟩
theorem lw_p42 : lw_okq (⟨"SecondHelpingsModel", "readLine", "()Z"⟩, 51) := ⟨⟨by decide +kernel, by decide +kernel⟩, List.mem_of_getElem? (i := 1237) (by decide +kernel), List.mem_of_getElem? (i := 1442) (by decide +kernel), List.mem_of_getElem? (i := 1443) (by decide +kernel)⟩
theorem lw_p43 : lw_okq (⟨"SecondHelpingsModel", "isWord", "(I)Z"⟩, 51) := ⟨⟨by decide +kernel, by decide +kernel⟩, List.mem_of_getElem? (i := 1237) (by decide +kernel), List.mem_of_getElem? (i := 1446) (by decide +kernel), List.mem_of_getElem? (i := 1447) (by decide +kernel)⟩
theorem lw_p44 : lw_okq (⟨"SecondHelpingsModel", "readPerson", "()Z"⟩, 51) := ⟨⟨by decide +kernel, by decide +kernel⟩, List.mem_of_getElem? (i := 1237) (by decide +kernel), List.mem_of_getElem? (i := 1456) (by decide +kernel), List.mem_of_getElem? (i := 1457) (by decide +kernel)⟩
theorem lw_p45 : lw_okq (⟨"SecondHelpingsModel", "readFirst", "(II)Z"⟩, 51) := ⟨⟨by decide +kernel, by decide +kernel⟩, List.mem_of_getElem? (i := 1237) (by decide +kernel), List.mem_of_getElem? (i := 1460) (by decide +kernel), List.mem_of_getElem? (i := 1461) (by decide +kernel)⟩
theorem lw_p46 : lw_okq (⟨"SecondHelpingsModel", "bad", "(I)Z"⟩, 51) := ⟨⟨by decide +kernel, by decide +kernel⟩, List.mem_of_getElem? (i := 1237) (by decide +kernel), List.mem_of_getElem? (i := 1464) (by decide +kernel), List.mem_of_getElem? (i := 1465) (by decide +kernel)⟩
theorem lw_p47 : lw_okq (⟨"SecondHelpingsModel", "readNew", "(I)Z"⟩, 51) := ⟨⟨by decide +kernel, by decide +kernel⟩, List.mem_of_getElem? (i := 1237) (by decide +kernel), List.mem_of_getElem? (i := 1468) (by decide +kernel), List.mem_of_getElem? (i := 1469) (by decide +kernel)⟩
def lw_privs_3 : List (MethodName × Nat) := [(⟨"SecondHelpings$Sentence", "readPlainOne", "(LSecondHelpings$Tape;LSecondHelpings$Table;I)Z"⟩, 6), (⟨"SecondHelpings$Sentence", "thoseOf", "(LSecondHelpings$Course;I)I"⟩, 6), (⟨"SecondHelpings$Sentence", "holds", "(LSecondHelpings$Course;II)Z"⟩, 6), (⟨"SecondHelpings$Sentence", "compares", "(II)Z"⟩, 6), (⟨"java/lang/Throwable", "fillInStackTrace", "(I)Ljava/lang/Throwable;"⟩, 6), (⟨"SecondHelpingsModel", "come", "(I)V"⟩, 51), (⟨"SecondHelpingsModel", "begin", "(I)V"⟩, 51), (⟨"SecondHelpingsModel", "take", "()I"⟩, 51), (⟨"SecondHelpingsModel", "go", "()V"⟩, 51), (⟨"SecondHelpingsModel", "tapeAt", "(I)I"⟩, 51), (⟨"SecondHelpingsModel", "readLine", "()Z"⟩, 51), (⟨"SecondHelpingsModel", "isWord", "(I)Z"⟩, 51), (⟨"SecondHelpingsModel", "readPerson", "()Z"⟩, 51), (⟨"SecondHelpingsModel", "readFirst", "(II)Z"⟩, 51), (⟨"SecondHelpingsModel", "bad", "(I)Z"⟩, 51), (⟨"SecondHelpingsModel", "readNew", "(I)Z"⟩, 51)]
theorem lw_r3 : ∀ q ∈ lw_privs_3, lw_okq q := List.forall_mem_cons.mpr ⟨lw_p32, List.forall_mem_cons.mpr ⟨lw_p33, List.forall_mem_cons.mpr ⟨lw_p34, List.forall_mem_cons.mpr ⟨lw_p35, List.forall_mem_cons.mpr ⟨lw_p36, List.forall_mem_cons.mpr ⟨lw_p37, List.forall_mem_cons.mpr ⟨lw_p38, List.forall_mem_cons.mpr ⟨lw_p39, List.forall_mem_cons.mpr ⟨lw_p40, List.forall_mem_cons.mpr ⟨lw_p41, List.forall_mem_cons.mpr ⟨lw_p42, List.forall_mem_cons.mpr ⟨lw_p43, List.forall_mem_cons.mpr ⟨lw_p44, List.forall_mem_cons.mpr ⟨lw_p45, List.forall_mem_cons.mpr ⟨lw_p46, List.forall_mem_cons.mpr ⟨lw_p47, fun _ h => absurd h List.not_mem_nil⟩⟩⟩⟩⟩⟩⟩⟩⟩⟩⟩⟩⟩⟩⟩⟩
theorem lw_p48 : lw_okq (⟨"SecondHelpingsModel", "isName", "()Z"⟩, 51) := ⟨⟨by decide +kernel, by decide +kernel⟩, List.mem_of_getElem? (i := 1237) (by decide +kernel), List.mem_of_getElem? (i := 1472) (by decide +kernel), List.mem_of_getElem? (i := 1473) (by decide +kernel)⟩
theorem lw_p49 : lw_okq (⟨"SecondHelpingsModel", "readNumber", "(II)Z"⟩, 51) := ⟨⟨by decide +kernel, by decide +kernel⟩, List.mem_of_getElem? (i := 1237) (by decide +kernel), List.mem_of_getElem? (i := 1479) (by decide +kernel), List.mem_of_getElem? (i := 1480) (by decide +kernel)⟩
theorem lw_p50 : lw_okq (⟨"SecondHelpingsModel", "put", "(IZ)Z"⟩, 51) := ⟨⟨by decide +kernel, by decide +kernel⟩, List.mem_of_getElem? (i := 1237) (by decide +kernel), List.mem_of_getElem? (i := 1486) (by decide +kernel), List.mem_of_getElem? (i := 1487) (by decide +kernel)⟩
theorem lw_p51 : lw_okq (⟨"SecondHelpingsModel", "readOne", "(II)Z"⟩, 51) := ⟨⟨by decide +kernel, by decide +kernel⟩, List.mem_of_getElem? (i := 1237) (by decide +kernel), List.mem_of_getElem? (i := 1490) (by decide +kernel), List.mem_of_getElem? (i := 1491) (by decide +kernel)⟩
theorem lw_p52 : lw_okq (⟨"SecondHelpingsModel", "isOne", "(II)Z"⟩, 51) := ⟨⟨by decide +kernel, by decide +kernel⟩, List.mem_of_getElem? (i := 1237) (by decide +kernel), List.mem_of_getElem? (i := 1494) (by decide +kernel), List.mem_of_getElem? (i := 1495) (by decide +kernel)⟩
theorem lw_p53 : lw_okq (⟨"SecondHelpingsModel", "readDish", "()Z"⟩, 51) := ⟨⟨by decide +kernel, by decide +kernel⟩, List.mem_of_getElem? (i := 1237) (by decide +kernel), List.mem_of_getElem? (i := 1498) (by decide +kernel), List.mem_of_getElem? (i := 1499) (by decide +kernel)⟩
theorem lw_p54 : lw_okq (⟨"SecondHelpingsModel", "readPlate", "()Z"⟩, 51) := ⟨⟨by decide +kernel, by decide +kernel⟩, List.mem_of_getElem? (i := 1237) (by decide +kernel), List.mem_of_getElem? (i := 1502) (by decide +kernel), List.mem_of_getElem? (i := 1503) (by decide +kernel)⟩
theorem lw_p55 : lw_okq (⟨"SecondHelpingsModel", "readLaw", "()Z"⟩, 51) := ⟨⟨by decide +kernel, by decide +kernel⟩, List.mem_of_getElem? (i := 1237) (by decide +kernel), List.mem_of_getElem? (i := 1506) (by decide +kernel), List.mem_of_getElem? (i := 1507) (by decide +kernel)⟩
theorem lw_p56 : lw_okq (⟨"SecondHelpingsModel", "readEnd", "()Z"⟩, 51) := ⟨⟨by decide +kernel, by decide +kernel⟩, List.mem_of_getElem? (i := 1237) (by decide +kernel), List.mem_of_getElem? (i := 1510) (by decide +kernel), List.mem_of_getElem? (i := 1511) (by decide +kernel)⟩
theorem lw_p57 : lw_okq (⟨"SecondHelpingsModel", "isSign", "(I)Z"⟩, 51) := ⟨⟨by decide +kernel, by decide +kernel⟩, List.mem_of_getElem? (i := 1237) (by decide +kernel), List.mem_of_getElem? (i := 1514) (by decide +kernel), List.mem_of_getElem? (i := 1515) (by decide +kernel)⟩
theorem lw_p58 : lw_okq (⟨"SecondHelpingsModel", "startSo", "()V"⟩, 51) := ⟨⟨by decide +kernel, by decide +kernel⟩, List.mem_of_getElem? (i := 1237) (by decide +kernel), List.mem_of_getElem? (i := 1518) (by decide +kernel), List.mem_of_getElem? (i := 1519) (by decide +kernel)⟩
theorem lw_p59 : lw_okq (⟨"SecondHelpingsModel", "isPerson", "(I)Z"⟩, 51) := ⟨⟨by decide +kernel, by decide +kernel⟩, List.mem_of_getElem? (i := 1237) (by decide +kernel), List.mem_of_getElem? (i := 1530) (by decide +kernel), List.mem_of_getElem? (i := 1531) (by decide +kernel)⟩
theorem lw_p60 : lw_okq (⟨"SecondHelpingsModel", "refuse", "()I"⟩, 51) := ⟨⟨by decide +kernel, by decide +kernel⟩, List.mem_of_getElem? (i := 1237) (by decide +kernel), List.mem_of_getElem? (i := 1534) (by decide +kernel), List.mem_of_getElem? (i := 1535) (by decide +kernel)⟩
theorem lw_p61 : lw_okq (⟨"SecondHelpingsModel", "isDead", "(I)Z"⟩, 51) := ⟨⟨by decide +kernel, by decide +kernel⟩, List.mem_of_getElem? (i := 1237) (by decide +kernel), List.mem_of_getElem? (i := 1538) (by decide +kernel), List.mem_of_getElem? (i := 1539) (by decide +kernel)⟩
theorem lw_p62 : lw_okq (⟨"SecondHelpingsModel", "plateOf", "(I)I"⟩, 51) := ⟨⟨by decide +kernel, by decide +kernel⟩, List.mem_of_getElem? (i := 1237) (by decide +kernel), List.mem_of_getElem? (i := 1545) (by decide +kernel), List.mem_of_getElem? (i := 1546) (by decide +kernel)⟩
theorem lw_p63 : lw_okq (⟨"SecondHelpingsModel", "onPlate", "(II)I"⟩, 51) := ⟨⟨by decide +kernel, by decide +kernel⟩, List.mem_of_getElem? (i := 1237) (by decide +kernel), List.mem_of_getElem? (i := 1549) (by decide +kernel), List.mem_of_getElem? (i := 1550) (by decide +kernel)⟩
def lw_privs_4 : List (MethodName × Nat) := [(⟨"SecondHelpingsModel", "isName", "()Z"⟩, 51), (⟨"SecondHelpingsModel", "readNumber", "(II)Z"⟩, 51), (⟨"SecondHelpingsModel", "put", "(IZ)Z"⟩, 51), (⟨"SecondHelpingsModel", "readOne", "(II)Z"⟩, 51), (⟨"SecondHelpingsModel", "isOne", "(II)Z"⟩, 51), (⟨"SecondHelpingsModel", "readDish", "()Z"⟩, 51), (⟨"SecondHelpingsModel", "readPlate", "()Z"⟩, 51), (⟨"SecondHelpingsModel", "readLaw", "()Z"⟩, 51), (⟨"SecondHelpingsModel", "readEnd", "()Z"⟩, 51), (⟨"SecondHelpingsModel", "isSign", "(I)Z"⟩, 51), (⟨"SecondHelpingsModel", "startSo", "()V"⟩, 51), (⟨"SecondHelpingsModel", "isPerson", "(I)Z"⟩, 51), (⟨"SecondHelpingsModel", "refuse", "()I"⟩, 51), (⟨"SecondHelpingsModel", "isDead", "(I)Z"⟩, 51), (⟨"SecondHelpingsModel", "plateOf", "(I)I"⟩, 51), (⟨"SecondHelpingsModel", "onPlate", "(II)I"⟩, 51)]
theorem lw_r4 : ∀ q ∈ lw_privs_4, lw_okq q := List.forall_mem_cons.mpr ⟨lw_p48, List.forall_mem_cons.mpr ⟨lw_p49, List.forall_mem_cons.mpr ⟨lw_p50, List.forall_mem_cons.mpr ⟨lw_p51, List.forall_mem_cons.mpr ⟨lw_p52, List.forall_mem_cons.mpr ⟨lw_p53, List.forall_mem_cons.mpr ⟨lw_p54, List.forall_mem_cons.mpr ⟨lw_p55, List.forall_mem_cons.mpr ⟨lw_p56, List.forall_mem_cons.mpr ⟨lw_p57, List.forall_mem_cons.mpr ⟨lw_p58, List.forall_mem_cons.mpr ⟨lw_p59, List.forall_mem_cons.mpr ⟨lw_p60, List.forall_mem_cons.mpr ⟨lw_p61, List.forall_mem_cons.mpr ⟨lw_p62, List.forall_mem_cons.mpr ⟨lw_p63, fun _ h => absurd h List.not_mem_nil⟩⟩⟩⟩⟩⟩⟩⟩⟩⟩⟩⟩⟩⟩⟩⟩
theorem lw_p64 : lw_okq (⟨"SecondHelpingsModel", "isDish", "(I)Z"⟩, 51) := ⟨⟨by decide +kernel, by decide +kernel⟩, List.mem_of_getElem? (i := 1237) (by decide +kernel), List.mem_of_getElem? (i := 1557) (by decide +kernel), List.mem_of_getElem? (i := 1558) (by decide +kernel)⟩
theorem lw_p65 : lw_okq (⟨"SecondHelpingsModel", "sumOf", "(I)I"⟩, 51) := ⟨⟨by decide +kernel, by decide +kernel⟩, List.mem_of_getElem? (i := 1237) (by decide +kernel), List.mem_of_getElem? (i := 1569) (by decide +kernel), List.mem_of_getElem? (i := 1570) (by decide +kernel)⟩
theorem lw_p66 : lw_okq (⟨"SecondHelpingsModel", "outs", "()I"⟩, 51) := ⟨⟨by decide +kernel, by decide +kernel⟩, List.mem_of_getElem? (i := 1237) (by decide +kernel), List.mem_of_getElem? (i := 1577) (by decide +kernel), List.mem_of_getElem? (i := 1578) (by decide +kernel)⟩
theorem lw_p67 : lw_okq (⟨"SecondHelpingsModel", "heirBy", "(II)I"⟩, 51) := ⟨⟨by decide +kernel, by decide +kernel⟩, List.mem_of_getElem? (i := 1237) (by decide +kernel), List.mem_of_getElem? (i := 1581) (by decide +kernel), List.mem_of_getElem? (i := 1582) (by decide +kernel)⟩
theorem lw_p68 : lw_okq (⟨"SecondHelpingsModel", "nextTo", "(II)I"⟩, 51) := ⟨⟨by decide +kernel, by decide +kernel⟩, List.mem_of_getElem? (i := 1237) (by decide +kernel), List.mem_of_getElem? (i := 1585) (by decide +kernel), List.mem_of_getElem? (i := 1586) (by decide +kernel)⟩
theorem lw_p69 : lw_okq (⟨"SecondHelpingsModel", "act", "(IIII)I"⟩, 51) := ⟨⟨by decide +kernel, by decide +kernel⟩, List.mem_of_getElem? (i := 1237) (by decide +kernel), List.mem_of_getElem? (i := 1597) (by decide +kernel), List.mem_of_getElem? (i := 1598) (by decide +kernel)⟩
theorem lw_p70 : lw_okq (⟨"SecondHelpingsModel", "why", "(IIII)I"⟩, 51) := ⟨⟨by decide +kernel, by decide +kernel⟩, List.mem_of_getElem? (i := 1237) (by decide +kernel), List.mem_of_getElem? (i := 1601) (by decide +kernel), List.mem_of_getElem? (i := 1602) (by decide +kernel)⟩
theorem lw_p71 : lw_okq (⟨"SecondHelpingsModel", "wantsYet", "(I)I"⟩, 51) := ⟨⟨by decide +kernel, by decide +kernel⟩, List.mem_of_getElem? (i := 1237) (by decide +kernel), List.mem_of_getElem? (i := 1605) (by decide +kernel), List.mem_of_getElem? (i := 1606) (by decide +kernel)⟩
theorem lw_p72 : lw_okq (⟨"SecondHelpingsModel", "snap", "()V"⟩, 51) := ⟨⟨by decide +kernel, by decide +kernel⟩, List.mem_of_getElem? (i := 1237) (by decide +kernel), List.mem_of_getElem? (i := 1609) (by decide +kernel), List.mem_of_getElem? (i := 1610) (by decide +kernel)⟩
theorem lw_p73 : lw_okq (⟨"SecondHelpingsModel", "live", "(IIII)V"⟩, 51) := ⟨⟨by decide +kernel, by decide +kernel⟩, List.mem_of_getElem? (i := 1237) (by decide +kernel), List.mem_of_getElem? (i := 1613) (by decide +kernel), List.mem_of_getElem? (i := 1614) (by decide +kernel)⟩
theorem lw_p74 : lw_okq (⟨"SecondHelpingsModel", "doEat", "(III)V"⟩, 51) := ⟨⟨by decide +kernel, by decide +kernel⟩, List.mem_of_getElem? (i := 1237) (by decide +kernel), List.mem_of_getElem? (i := 1617) (by decide +kernel), List.mem_of_getElem? (i := 1618) (by decide +kernel)⟩
theorem lw_p75 : lw_okq (⟨"SecondHelpingsModel", "pass", "(I)V"⟩, 51) := ⟨⟨by decide +kernel, by decide +kernel⟩, List.mem_of_getElem? (i := 1237) (by decide +kernel), List.mem_of_getElem? (i := 1621) (by decide +kernel), List.mem_of_getElem? (i := 1622) (by decide +kernel)⟩
theorem lw_p76 : lw_okq (⟨"SecondHelpingsModel", "passMeals", "(I)I"⟩, 51) := ⟨⟨by decide +kernel, by decide +kernel⟩, List.mem_of_getElem? (i := 1237) (by decide +kernel), List.mem_of_getElem? (i := 1656) (by decide +kernel), List.mem_of_getElem? (i := 1657) (by decide +kernel)⟩
theorem lw_p77 : lw_okq (⟨"SecondHelpingsModel", "oneMeal", "()V"⟩, 51) := ⟨⟨by decide +kernel, by decide +kernel⟩, List.mem_of_getElem? (i := 1237) (by decide +kernel), List.mem_of_getElem? (i := 1660) (by decide +kernel), List.mem_of_getElem? (i := 1661) (by decide +kernel)⟩
theorem lw_p78 : lw_okq (⟨"SecondHelpingsModel", "living", "()I"⟩, 51) := ⟨⟨by decide +kernel, by decide +kernel⟩, List.mem_of_getElem? (i := 1237) (by decide +kernel), List.mem_of_getElem? (i := 1669) (by decide +kernel), List.mem_of_getElem? (i := 1670) (by decide +kernel)⟩
theorem lw_p79 : lw_okq (⟨"SecondHelpingsModel", "orderFrom", "(II)V"⟩, 51) := ⟨⟨by decide +kernel, by decide +kernel⟩, List.mem_of_getElem? (i := 1237) (by decide +kernel), List.mem_of_getElem? (i := 1676) (by decide +kernel), List.mem_of_getElem? (i := 1677) (by decide +kernel)⟩
def lw_privs_5 : List (MethodName × Nat) := [(⟨"SecondHelpingsModel", "isDish", "(I)Z"⟩, 51), (⟨"SecondHelpingsModel", "sumOf", "(I)I"⟩, 51), (⟨"SecondHelpingsModel", "outs", "()I"⟩, 51), (⟨"SecondHelpingsModel", "heirBy", "(II)I"⟩, 51), (⟨"SecondHelpingsModel", "nextTo", "(II)I"⟩, 51), (⟨"SecondHelpingsModel", "act", "(IIII)I"⟩, 51), (⟨"SecondHelpingsModel", "why", "(IIII)I"⟩, 51), (⟨"SecondHelpingsModel", "wantsYet", "(I)I"⟩, 51), (⟨"SecondHelpingsModel", "snap", "()V"⟩, 51), (⟨"SecondHelpingsModel", "live", "(IIII)V"⟩, 51), (⟨"SecondHelpingsModel", "doEat", "(III)V"⟩, 51), (⟨"SecondHelpingsModel", "pass", "(I)V"⟩, 51), (⟨"SecondHelpingsModel", "passMeals", "(I)I"⟩, 51), (⟨"SecondHelpingsModel", "oneMeal", "()V"⟩, 51), (⟨"SecondHelpingsModel", "living", "()I"⟩, 51), (⟨"SecondHelpingsModel", "orderFrom", "(II)V"⟩, 51)]
theorem lw_r5 : ∀ q ∈ lw_privs_5, lw_okq q := List.forall_mem_cons.mpr ⟨lw_p64, List.forall_mem_cons.mpr ⟨lw_p65, List.forall_mem_cons.mpr ⟨lw_p66, List.forall_mem_cons.mpr ⟨lw_p67, List.forall_mem_cons.mpr ⟨lw_p68, List.forall_mem_cons.mpr ⟨lw_p69, List.forall_mem_cons.mpr ⟨lw_p70, List.forall_mem_cons.mpr ⟨lw_p71, List.forall_mem_cons.mpr ⟨lw_p72, List.forall_mem_cons.mpr ⟨lw_p73, List.forall_mem_cons.mpr ⟨lw_p74, List.forall_mem_cons.mpr ⟨lw_p75, List.forall_mem_cons.mpr ⟨lw_p76, List.forall_mem_cons.mpr ⟨lw_p77, List.forall_mem_cons.mpr ⟨lw_p78, List.forall_mem_cons.mpr ⟨lw_p79, fun _ h => absurd h List.not_mem_nil⟩⟩⟩⟩⟩⟩⟩⟩⟩⟩⟩⟩⟩⟩⟩⟩
theorem lw_p80 : lw_okq (⟨"SecondHelpingsModel", "eatsAll", "(I)V"⟩, 51) := ⟨⟨by decide +kernel, by decide +kernel⟩, List.mem_of_getElem? (i := 1237) (by decide +kernel), List.mem_of_getElem? (i := 1680) (by decide +kernel), List.mem_of_getElem? (i := 1681) (by decide +kernel)⟩
theorem lw_p81 : lw_okq (⟨"SecondHelpingsModel", "seatFrom", "(III)V"⟩, 51) := ⟨⟨by decide +kernel, by decide +kernel⟩, List.mem_of_getElem? (i := 1237) (by decide +kernel), List.mem_of_getElem? (i := 1715) (by decide +kernel), List.mem_of_getElem? (i := 1716) (by decide +kernel)⟩
theorem lw_p82 : lw_okq (⟨"SecondHelpingsModel", "layAside", "()V"⟩, 51) := ⟨⟨by decide +kernel, by decide +kernel⟩, List.mem_of_getElem? (i := 1237) (by decide +kernel), List.mem_of_getElem? (i := 1727) (by decide +kernel), List.mem_of_getElem? (i := 1728) (by decide +kernel)⟩
theorem lw_p83 : lw_okq (⟨"SecondHelpingsModel", "takeBack", "()V"⟩, 51) := ⟨⟨by decide +kernel, by decide +kernel⟩, List.mem_of_getElem? (i := 1237) (by decide +kernel), List.mem_of_getElem? (i := 1731) (by decide +kernel), List.mem_of_getElem? (i := 1732) (by decide +kernel)⟩
theorem lw_p84 : lw_okq (⟨"SecondHelpingsModel", "writeWord", "(J)V"⟩, 51) := ⟨⟨by decide +kernel, by decide +kernel⟩, List.mem_of_getElem? (i := 1237) (by decide +kernel), List.mem_of_getElem? (i := 1747) (by decide +kernel), List.mem_of_getElem? (i := 1748) (by decide +kernel)⟩
theorem lw_p85 : lw_okq (⟨"SecondHelpingsModel", "write", "(I)V"⟩, 51) := ⟨⟨by decide +kernel, by decide +kernel⟩, List.mem_of_getElem? (i := 1237) (by decide +kernel), List.mem_of_getElem? (i := 1751) (by decide +kernel), List.mem_of_getElem? (i := 1752) (by decide +kernel)⟩
theorem lw_p86 : lw_okq (⟨"SecondHelpingsModel", "writeNext", "(J)V"⟩, 51) := ⟨⟨by decide +kernel, by decide +kernel⟩, List.mem_of_getElem? (i := 1237) (by decide +kernel), List.mem_of_getElem? (i := 1755) (by decide +kernel), List.mem_of_getElem? (i := 1756) (by decide +kernel)⟩
theorem lw_p87 : lw_okq (⟨"SecondHelpingsModel", "writeNumber", "(I)V"⟩, 51) := ⟨⟨by decide +kernel, by decide +kernel⟩, List.mem_of_getElem? (i := 1237) (by decide +kernel), List.mem_of_getElem? (i := 1759) (by decide +kernel), List.mem_of_getElem? (i := 1760) (by decide +kernel)⟩
theorem lw_p88 : lw_okq (⟨"SecondHelpingsModel", "drawMeals", "(II)I"⟩, 51) := ⟨⟨by decide +kernel, by decide +kernel⟩, List.mem_of_getElem? (i := 1237) (by decide +kernel), List.mem_of_getElem? (i := 1771) (by decide +kernel), List.mem_of_getElem? (i := 1772) (by decide +kernel)⟩
theorem lw_p89 : lw_okq (⟨"SecondHelpingsModel", "draw", "(I)I"⟩, 51) := ⟨⟨by decide +kernel, by decide +kernel⟩, List.mem_of_getElem? (i := 1237) (by decide +kernel), List.mem_of_getElem? (i := 1775) (by decide +kernel), List.mem_of_getElem? (i := 1776) (by decide +kernel)⟩
theorem lw_p90 : lw_okq (⟨"SecondHelpingsModel", "readBookLine", "()Z"⟩, 51) := ⟨⟨by decide +kernel, by decide +kernel⟩, List.mem_of_getElem? (i := 1237) (by decide +kernel), List.mem_of_getElem? (i := 1788) (by decide +kernel), List.mem_of_getElem? (i := 1789) (by decide +kernel)⟩
theorem lw_p91 : lw_okq (⟨"SecondHelpingsModel", "readDoes", "(I)Z"⟩, 51) := ⟨⟨by decide +kernel, by decide +kernel⟩, List.mem_of_getElem? (i := 1237) (by decide +kernel), List.mem_of_getElem? (i := 1792) (by decide +kernel), List.mem_of_getElem? (i := 1793) (by decide +kernel)⟩
theorem lw_p92 : lw_okq (⟨"SecondHelpingsModel", "goBy", "(I)I"⟩, 51) := ⟨⟨by decide +kernel, by decide +kernel⟩, List.mem_of_getElem? (i := 1237) (by decide +kernel), List.mem_of_getElem? (i := 1796) (by decide +kernel), List.mem_of_getElem? (i := 1797) (by decide +kernel)⟩
theorem lw_p93 : lw_okq (⟨"SecondHelpingsModel", "stay", "(Z)V"⟩, 51) := ⟨⟨by decide +kernel, by decide +kernel⟩, List.mem_of_getElem? (i := 1237) (by decide +kernel), List.mem_of_getElem? (i := 1800) (by decide +kernel), List.mem_of_getElem? (i := 1801) (by decide +kernel)⟩
theorem lw_p94 : lw_okq (⟨"SecondHelpingsModel", "readOr", "()Z"⟩, 51) := ⟨⟨by decide +kernel, by decide +kernel⟩, List.mem_of_getElem? (i := 1237) (by decide +kernel), List.mem_of_getElem? (i := 1812) (by decide +kernel), List.mem_of_getElem? (i := 1813) (by decide +kernel)⟩
theorem lw_p95 : lw_okq (⟨"SecondHelpingsModel", "readAnd", "()Z"⟩, 51) := ⟨⟨by decide +kernel, by decide +kernel⟩, List.mem_of_getElem? (i := 1237) (by decide +kernel), List.mem_of_getElem? (i := 1816) (by decide +kernel), List.mem_of_getElem? (i := 1817) (by decide +kernel)⟩
def lw_privs_6 : List (MethodName × Nat) := [(⟨"SecondHelpingsModel", "eatsAll", "(I)V"⟩, 51), (⟨"SecondHelpingsModel", "seatFrom", "(III)V"⟩, 51), (⟨"SecondHelpingsModel", "layAside", "()V"⟩, 51), (⟨"SecondHelpingsModel", "takeBack", "()V"⟩, 51), (⟨"SecondHelpingsModel", "writeWord", "(J)V"⟩, 51), (⟨"SecondHelpingsModel", "write", "(I)V"⟩, 51), (⟨"SecondHelpingsModel", "writeNext", "(J)V"⟩, 51), (⟨"SecondHelpingsModel", "writeNumber", "(I)V"⟩, 51), (⟨"SecondHelpingsModel", "drawMeals", "(II)I"⟩, 51), (⟨"SecondHelpingsModel", "draw", "(I)I"⟩, 51), (⟨"SecondHelpingsModel", "readBookLine", "()Z"⟩, 51), (⟨"SecondHelpingsModel", "readDoes", "(I)Z"⟩, 51), (⟨"SecondHelpingsModel", "goBy", "(I)I"⟩, 51), (⟨"SecondHelpingsModel", "stay", "(Z)V"⟩, 51), (⟨"SecondHelpingsModel", "readOr", "()Z"⟩, 51), (⟨"SecondHelpingsModel", "readAnd", "()Z"⟩, 51)]
theorem lw_r6 : ∀ q ∈ lw_privs_6, lw_okq q := List.forall_mem_cons.mpr ⟨lw_p80, List.forall_mem_cons.mpr ⟨lw_p81, List.forall_mem_cons.mpr ⟨lw_p82, List.forall_mem_cons.mpr ⟨lw_p83, List.forall_mem_cons.mpr ⟨lw_p84, List.forall_mem_cons.mpr ⟨lw_p85, List.forall_mem_cons.mpr ⟨lw_p86, List.forall_mem_cons.mpr ⟨lw_p87, List.forall_mem_cons.mpr ⟨lw_p88, List.forall_mem_cons.mpr ⟨lw_p89, List.forall_mem_cons.mpr ⟨lw_p90, List.forall_mem_cons.mpr ⟨lw_p91, List.forall_mem_cons.mpr ⟨lw_p92, List.forall_mem_cons.mpr ⟨lw_p93, List.forall_mem_cons.mpr ⟨lw_p94, List.forall_mem_cons.mpr ⟨lw_p95, fun _ h => absurd h List.not_mem_nil⟩⟩⟩⟩⟩⟩⟩⟩⟩⟩⟩⟩⟩⟩⟩⟩
theorem lw_p96 : lw_okq (⟨"SecondHelpingsModel", "readSaid", "()Z"⟩, 51) := ⟨⟨by decide +kernel, by decide +kernel⟩, List.mem_of_getElem? (i := 1237) (by decide +kernel), List.mem_of_getElem? (i := 1820) (by decide +kernel), List.mem_of_getElem? (i := 1821) (by decide +kernel)⟩
theorem lw_p97 : lw_okq (⟨"SecondHelpingsModel", "readBracket", "()Z"⟩, 51) := ⟨⟨by decide +kernel, by decide +kernel⟩, List.mem_of_getElem? (i := 1237) (by decide +kernel), List.mem_of_getElem? (i := 1824) (by decide +kernel), List.mem_of_getElem? (i := 1825) (by decide +kernel)⟩
theorem lw_p98 : lw_okq (⟨"SecondHelpingsModel", "readNot", "()Z"⟩, 51) := ⟨⟨by decide +kernel, by decide +kernel⟩, List.mem_of_getElem? (i := 1237) (by decide +kernel), List.mem_of_getElem? (i := 1828) (by decide +kernel), List.mem_of_getElem? (i := 1829) (by decide +kernel)⟩
theorem lw_p99 : lw_okq (⟨"SecondHelpingsModel", "saysOne", "(IIII)I"⟩, 51) := ⟨⟨by decide +kernel, by decide +kernel⟩, List.mem_of_getElem? (i := 1237) (by decide +kernel), List.mem_of_getElem? (i := 1832) (by decide +kernel), List.mem_of_getElem? (i := 1833) (by decide +kernel)⟩
theorem lw_p100 : lw_okq (⟨"SecondHelpingsModel", "readOf", "(I)Z"⟩, 51) := ⟨⟨by decide +kernel, by decide +kernel⟩, List.mem_of_getElem? (i := 1237) (by decide +kernel), List.mem_of_getElem? (i := 1836) (by decide +kernel), List.mem_of_getElem? (i := 1837) (by decide +kernel)⟩
theorem lw_p101 : lw_okq (⟨"SecondHelpingsModel", "readNamed", "(II)Z"⟩, 51) := ⟨⟨by decide +kernel, by decide +kernel⟩, List.mem_of_getElem? (i := 1237) (by decide +kernel), List.mem_of_getElem? (i := 1840) (by decide +kernel), List.mem_of_getElem? (i := 1841) (by decide +kernel)⟩
theorem lw_p102 : lw_okq (⟨"SecondHelpingsModel", "readCompare", "(I)Z"⟩, 51) := ⟨⟨by decide +kernel, by decide +kernel⟩, List.mem_of_getElem? (i := 1237) (by decide +kernel), List.mem_of_getElem? (i := 1844) (by decide +kernel), List.mem_of_getElem? (i := 1845) (by decide +kernel)⟩
theorem lw_p103 : lw_okq (⟨"SecondHelpingsModel", "holds", "(II)Z"⟩, 51) := ⟨⟨by decide +kernel, by decide +kernel⟩, List.mem_of_getElem? (i := 1237) (by decide +kernel), List.mem_of_getElem? (i := 1852) (by decide +kernel), List.mem_of_getElem? (i := 1853) (by decide +kernel)⟩
def lw_privs_7 : List (MethodName × Nat) := [(⟨"SecondHelpingsModel", "readSaid", "()Z"⟩, 51), (⟨"SecondHelpingsModel", "readBracket", "()Z"⟩, 51), (⟨"SecondHelpingsModel", "readNot", "()Z"⟩, 51), (⟨"SecondHelpingsModel", "saysOne", "(IIII)I"⟩, 51), (⟨"SecondHelpingsModel", "readOf", "(I)Z"⟩, 51), (⟨"SecondHelpingsModel", "readNamed", "(II)Z"⟩, 51), (⟨"SecondHelpingsModel", "readCompare", "(I)Z"⟩, 51), (⟨"SecondHelpingsModel", "holds", "(II)Z"⟩, 51)]
theorem lw_r7 : ∀ q ∈ lw_privs_7, lw_okq q := List.forall_mem_cons.mpr ⟨lw_p96, List.forall_mem_cons.mpr ⟨lw_p97, List.forall_mem_cons.mpr ⟨lw_p98, List.forall_mem_cons.mpr ⟨lw_p99, List.forall_mem_cons.mpr ⟨lw_p100, List.forall_mem_cons.mpr ⟨lw_p101, List.forall_mem_cons.mpr ⟨lw_p102, List.forall_mem_cons.mpr ⟨lw_p103, fun _ h => absurd h List.not_mem_nil⟩⟩⟩⟩⟩⟩⟩⟩
def lw_privs : List (MethodName × Nat) := lw_privs_1 ++ (lw_privs_2 ++ (lw_privs_3 ++ (lw_privs_4 ++ (lw_privs_5 ++ (lw_privs_6 ++ (lw_privs_7))))))
def lw_tbl : List Cond := k2_sels lw_privs ++ tables_1
theorem lw_privs_ok : ∀ q ∈ lw_privs, lw_okq q := by
  show ∀ q ∈ lw_privs_1 ++ (lw_privs_2 ++ (lw_privs_3 ++ (lw_privs_4 ++ (lw_privs_5 ++ (lw_privs_6 ++ (lw_privs_7)))))), lw_okq q
  exact List.forall_mem_append.mpr ⟨lw_r1, List.forall_mem_append.mpr ⟨lw_r2, List.forall_mem_append.mpr ⟨lw_r3, List.forall_mem_append.mpr ⟨lw_r4, List.forall_mem_append.mpr ⟨lw_r5, List.forall_mem_append.mpr ⟨lw_r6, lw_r7⟩⟩⟩⟩⟩⟩
end
section
/-! ===== BEGIN words of one list among another's, by their places ===== -/
theorem goodIn_r {big : List Cond} (ws : List Cond) (ps : List Nat) (hp : ws = ps.filterMap (fun i => big[i]?)) (h : ws.all goodWord = true) : GoodIn big ws := by
  intro w hw
  have h1 := List.all_eq_true.mp h w hw
  rw [hp] at hw
  obtain ⟨i, -, hi⟩ := List.mem_filterMap.mp hw
  have hm : w ∈ big := by first | exact List.mem_of_getElem? hi | exact List.getElem?_mem hi
  exact ⟨hm, good_of_word h1⟩
theorem goodIn_app {big a b : List Cond} (ha : GoodIn big a) (hb : GoodIn big b) : GoodIn big (a ++ b) := fun w h => (List.mem_append.mp h).elim (ha w) (hb w)
theorem goodIn_ca {big a b : List Cond} {c : Cond} (ha : GoodIn big (c :: a)) (hb : GoodIn big b) : GoodIn big (c :: (a ++ b)) := fun w h => (List.mem_cons.mp h).elim (fun e => ha w (List.mem_cons.mpr (Or.inl e))) (fun h => (List.mem_append.mp h).elim (fun h => ha w (List.mem_cons.mpr (Or.inr h))) (hb w))
theorem goodIn_sub {big ws : List Cond} (hm : ∀ w ∈ ws, w ∈ big) (h : ws.all goodWord = true) : GoodIn big ws := fun w hw => ⟨hm w hw, good_of_word (List.all_eq_true.mp h w hw)⟩
/-! ===== END ===== -/

/-! ===== BEGIN exceptions that leave a method, and their catching by the caller (launches without stack traces) ===== -/
section VXA
/-! The laws vx_back, vx_callV, vx_callS, vx_callSW, vx_throw0, vx_throwS follow proofs of the library, with one case more: JvmDerived/Free/Laws.lean (Back.of_free), Shelf42/LK1.lean (callV, callS), Shelf/KitTraced.lean (throwNew0V, throwNewS). -/
/-- where a method has thrown q: the class by its name, the cell, what was written, the world -/
def vx_T (XC : String → State → State → Prop) (st : State) (q : Addr) (t : State) (mc ms : Nat) (free : Addr → Prop) : Prop :=
  ∃ (E : String) (ce : Cell) (L : List Loc), XC E st t ∧ t.heap[q]? = some ce ∧ ce.vm = .none ∧ st.vm.findClass E = some ce.cls ∧ st.WarmedH t.vm ∧ st.sameButNew ({ t with vm := st.vm } : State) L mc ms ∧ ∀ z ∈ L, free z.base
def vx_Q (Qc : Array Value → State → Outcome → State → Prop) (XC : String → State → State → Prop) (mc ms : Nat) (free : Addr → Prop) : Array Value → State → Outcome → State → Prop := fun a st o t =>
  (Qc a st o t ∧ ∃ L, FrameEnd st o t L mc ms ∧ ∀ q ∈ L, free q.base) ∨ ∃ q, o = .threw q ∧ vx_T XC st q t mc ms free
/-- a callee that returns or throws -/
def vx_Met (l : Launch) (y : MethodName) (ws : List Cond) (rm : Room) (Pc : Array Value → State → Prop) (Qc : Array Value → State → Outcome → State → Prop) (XC : String → State → State → Prop) (mc ms : Nat) (free : Addr → Prop) : Prop :=
  MetFree l y (headSpec ws rm) Pc (fun _ _ _ _ _ => True) (vx_Q Qc XC mc ms free)
def vx_Post (XC : String → State → State → Prop) (mc ms : Nat) (free : Addr → Prop) : Pt → Array Value → Addr → Pt → Prop := fun A a q B =>
  ∃ (g : JFrame) (mk : MethodId) (t : State) (L : List Loc) (E : String) (ce : Cell), B.U.heap = t.heap ∧ B.U.vm = t.vm ∧ XC E (A.U.calling g mk a) t ∧ t.heap[q]? = some ce ∧ ce.vm = .none ∧ A.U.vm.findClass E = some ce.cls ∧ B.locs = A.locs ++ L ∧ (∀ z ∈ L, free z.base) ∧ B.cells = A.cells + mc ∧ B.slots = A.slots + ms
def vx_Back (l : Launch) (R : Room) (p : Program) (e : Env) (below : List Frame) (s : State) (sargs : Array Value) (y : MethodName) (len W9 : Nat)
    (Pre : Pt → Array Value → Prop) (Post : Pt → Array Value → Option Value → Pt → Prop) (PostX : Pt → Array Value → Addr → Pt → Prop) : Prop :=
  ∀ (m : MethodId) (meth : Method) (c : Code) (A : Pt) (g : JFrame) (ig : Instr) (mk : MethodId) (a : Array Value),
    Stand p l e R s m sargs below meth c A.U A.locs A.cells A.slots → g.method = m → g.locals.size = c.maxLocals → decode c.code g.pc = .ok (ig, len) →
    2 * g.monitorRoom + (g.stack.map fun v => v.category).sum ≤ W9 → A.U.methodNamed? y = some mk → Pre A a →
    (∃ (v : Option Value) (B : Pt), Stand p l e R s m sargs below meth c B.U B.locs B.cells B.slots ∧ Post A a v B ∧
      Steps p.tables e below (doInvoke e (A.U.setTop g) [] mk a).1 (B.U.setTop { g with pc := g.pc + len, stack := v.toList ++ g.stack })) ∨
    (∃ (q : Addr) (B : Pt), Stand p l e R s m sargs below meth c B.U B.locs B.cells B.slots ∧ PostX A a q B ∧
      Steps p.tables e below (doInvoke e (A.U.setTop g) [] mk a).1 ((B.U.setTop g).pushFrame (.throwing q)))
section Payer
variable {l : Launch} {R : Room} {p : Program} {e : Env} {below : List Frame} {s : State} {sargs : Array Value} {y : MethodName} {len W9 : Nat}
theorem vx_back {ws : List Cond} {rm : Room} {Pc : Array Value → State → Prop} {Qc : Array Value → State → Outcome → State → Prop} {XC : String → State → State → Prop} {mc ms : Nat} {free : Addr → Prop} {bytes : ByteArray} {maxL : Nat} {ret : Option FieldType}
    (hM : vx_Met l y ws rm Pc Qc XC mc ms free) (hblind : FrameBlind Pc) (hrc : rm.cells = mc) (hrs : rm.slots = ms)
    (hframes : rm.frames + 1 ≤ R.frames) (hlocals : W9 + (maxL + 11) + rm.locals ≤ R.locals)
    (hws : ∀ w ∈ ws, ∀ a' U, s.WarmedH U.vm → w.before a' U = true) (hcode : Cond.code y bytes maxL ret ∈ ws) (hinit : ∀ a' U, s.WarmedH U.vm → (Cond.initialized y.cls).before a' U = true) :
    vx_Back l R p e below s sargs y len W9 (PreOf R mc ms Pc) (PostOf Qc mc ms free) (vx_Post XC mc ms free) := by
  intro m meth c A g ig mk a X hg hsize hdg hW hn hp
  have h1 : (headSpec ws rm).pre.before a A.U = true := atoms_intro fun w hw => hws w hw _ _ X.warmed
  have h2 : (Cond.code y bytes maxL ret).before a A.U = true := hws _ hcode _ _ X.warmed
  have h3 : (Cond.initialized y.cls).before a A.U = true := hinit _ _ X.warmed
  have h4 : A.cells + (headSpec ws rm).room.cells ≤ R.cells := by rw [show (headSpec ws rm).room.cells = mc from hrc]; exact hp.1
  have h5 : A.slots + (headSpec ws rm).room.slots ≤ R.slots := by rw [show (headSpec ws rm).room.slots = ms from hrs]; exact hp.2.1
  have hPc : Pc a (A.U.calling g mk a) := hblind _ _ _ _ hp.2.2
  obtain ⟨U, Ls, c0, s0⟩ := A
  dsimp only [Pt.U, Pt.locs, Pt.cells, Pt.slots] at h1 h2 h3 h4 h5 X hn hPc ⊢
  obtain ⟨methY, cY, hmY, hcY, -, hlY, -, -, -, -⟩ := Cond.code_spec hn h2
  obtain ⟨kY, hkY, -⟩ := className_of_methodNamed hn
  have hinitY : kY.init = .initialized := Cond.initialized_spec (findClass_of_methodNamed hn) hkY h3
  have h : At U g.method c below := by rw [hg]; exact X.here
  have hlocals9 : W9 + (maxL + 11) + (headSpec ws rm).room.locals ≤ R.locals := hlocals
  have happ : (headSpec ws rm).appliesLoose y e.platform (U.calling g mk a) = true :=
    Spec.appliesLoose_calling (g := g) h hdg hn hkY hinitY
      (X.room_calling (g := g) (R' := (headSpec ws rm).room) hsize hmY hcY hframes (by rw [hlY]; omega) h4 h5) h1
  obtain ⟨mid, hmid⟩ := h.above
  have hfr : (U.setTop g).frames = (.java g :: mid) ++ below := by rw [State.frames_setTop' g h.top, hmid]; rfl
  obtain ⟨o, s₂, hsteps, -, hend, hq⟩ := Steps.callFree hM p X.admits X.cas X.clock (acts := []) hfr happ hPc trivial
  have hq' : vx_Q Qc XC mc ms free a (U.calling g mk a) o s₂ := hq
  rw [State.frames_setTop' g h.top] at hend
  obtain ⟨g₀, hg0⟩ := Option.isSome_iff_exists.mp h.top
  obtain ⟨r, hr⟩ := State.topJava?_eq_some.mp hg0
  have hr' : (({ U with heap := s₂.heap, slotsUsed := s₂.slotsUsed } : State).setVm s₂.vm).frames = .java g₀ :: r := hr
  rcases hq' with ⟨hqc, L, hfe, hL⟩ | ⟨q, rfl, E, ce, L, hx, hce, hcv, hcl, hW₂, hsm, hL⟩
  · obtain ⟨⟨v, rfl⟩, hW₂, e2, q2, q3, q4, q5, q6⟩ := id hfe
    have e3 : s₂ = ({ (U.calling g mk a).setFrames s₂.frames with heap := s₂.heap, slotsUsed := s₂.slotsUsed } : State).setVm s₂.vm := by
      have : s₂ = ({ s₂ with vm := (U.calling g mk a).vm } : State).setVm s₂.vm := rfl
      rw [e2] at this
      exact this
    obtain ⟨c₂, i₂, len₂, hc₂, hd₂, hf₂⟩ := hend
    have hW' : U.WarmedH s₂.vm := hW₂
    have hcc : c₂ = c := by
      have h1 : s₂.code? g.method = U.code? g.method := by
        rw [State.code?_eq, State.code?_eq, hW'.alike.method?]
      exact Option.some.inj (hc₂.symm.trans (h1.trans h.code))
    subst hcc
    have hlen : len₂ = len := by rw [hdg] at hd₂; cases hd₂; rfl
    subst hlen
    have hs₂ : s₂ = (({ U with heap := s₂.heap, slotsUsed := s₂.slotsUsed } : State).setVm s₂.vm).setTop { g with pc := g.pc + len₂, stack := v.toList ++ g.stack } := by
      refine e3.trans ?_
      rw [hf₂, State.calling_eq h.top, State.setFrames_setFrames, State.setTop_of_frames _ hr', hr]
      rfl
    have hsame : U.sameButNew ({ U with heap := s₂.heap, slotsUsed := s₂.slotsUsed } : State) L mc ms := by
      refine ⟨?_, q2, q3, q4, q5, q6⟩
      obtain ⟨t, ht, -⟩ := State.frames_cons hr
      show ({ U with heap := s₂.heap, slotsUsed := s₂.slotsUsed } : State) = { U.setFrames U.frames with heap := s₂.heap, slotsUsed := s₂.slotsUsed }
      rw [State.setFrames_self ht]
    subst hg
    refine Or.inl ⟨v, ⟨(({ U with heap := s₂.heap, slotsUsed := s₂.slotsUsed } : State).setVm s₂.vm), Ls ++ L, c0 + mc, s0 + ms⟩,
      ⟨X.admits, X.cas, X.clock, X.frames, X.room, X.hears, X.method, X.code, (X.here.setHeapUsed s₂.heap s₂.slotsUsed).setVm hW'.alike, X.tail, State.WarmedH.trans X.warmed hW', X.limits, X.bytes, X.same.trans (hsame.setVm s.vm)⟩,
      ⟨g, mk, s₂, L, rfl, rfl, hqc, rfl, hL, rfl, rfl⟩, ?_⟩
    show Steps p.tables e below _ ((({ U with heap := s₂.heap, slotsUsed := s₂.slotsUsed } : State).setVm s₂.vm).setTop { g with pc := g.pc + len₂, stack := v.toList ++ g.stack })
    rw [← hs₂]
    exact hsteps
  · obtain ⟨e2, q2, q3, q4, q5, q6⟩ := id hsm
    have e3 : s₂ = ({ (U.calling g mk a).setFrames s₂.frames with heap := s₂.heap, slotsUsed := s₂.slotsUsed } : State).setVm s₂.vm := by
      have : s₂ = ({ s₂ with vm := (U.calling g mk a).vm } : State).setVm s₂.vm := rfl
      rw [e2] at this
      exact this
    have hf₂ : s₂.frames = .throwing q :: .java g :: U.frames.tail := hend
    have hW' : U.WarmedH s₂.vm := hW₂
    have hs₂ : s₂ = ((({ U with heap := s₂.heap, slotsUsed := s₂.slotsUsed } : State).setVm s₂.vm).setTop g).pushFrame (.throwing q) := by
      refine e3.trans ?_
      rw [hf₂, State.calling_eq h.top, State.setFrames_setFrames, State.pushFrame, State.frames_setTop _ hr', State.setTop_of_frames _ hr', State.setFrames_setFrames, hr]
      rfl
    have hsame : U.sameButNew ({ U with heap := s₂.heap, slotsUsed := s₂.slotsUsed } : State) L mc ms := by
      refine ⟨?_, q2, q3, q4, q5, q6⟩
      obtain ⟨t, ht, -⟩ := State.frames_cons hr
      show ({ U with heap := s₂.heap, slotsUsed := s₂.slotsUsed } : State) = { U.setFrames U.frames with heap := s₂.heap, slotsUsed := s₂.slotsUsed }
      rw [State.setFrames_self ht]
    subst hg
    refine Or.inr ⟨q, ⟨(({ U with heap := s₂.heap, slotsUsed := s₂.slotsUsed } : State).setVm s₂.vm), Ls ++ L, c0 + mc, s0 + ms⟩,
      ⟨X.admits, X.cas, X.clock, X.frames, X.room, X.hears, X.method, X.code, (X.here.setHeapUsed s₂.heap s₂.slotsUsed).setVm hW'.alike, X.tail, State.WarmedH.trans X.warmed hW', X.limits, X.bytes, X.same.trans (hsame.setVm s.vm)⟩,
      ⟨g, mk, s₂, L, E, ce, rfl, rfl, hx, hce, hcv, hcl, rfl, hL, rfl, rfl⟩, ?_⟩
    show Steps p.tables e below _ (((({ U with heap := s₂.heap, slotsUsed := s₂.slotsUsed } : State).setVm s₂.vm).setTop g).pushFrame (.throwing q))
    rw [← hs₂]
    exact hsteps
end Payer
section Calls
variable {p : Program} {l : Launch} {e : Env} {R : Room} {s : State} {m : MethodId} {args : Array Value} {below : List Frame} {meth : Method} {c : Code} {T : State} {locs : List Loc} {cells slots : Nat}
theorem vx_callV (X : Stand p l e R s m args below meth c T locs cells slots) (hexec : p.tables.exec = Jvm.exec) {own C : String} {index : Nat} {y : MethodName} {bytes : ByteArray} {maxL : Nat} {ret : Option FieldType}
    (hown : s.vm.findClass own = some m.cls) (hlink : (Cond.methodLink own index y).before args s = true) (hinst : (Cond.instanceMethod y).before args s = true) (hsel : (Cond.selects C y y).before args s = true)
    (hcode : (Cond.code y bytes maxL ret).before args s = true) (hy : y.cls ≠ "java/lang/invoke/MethodHandle" ∧ y.cls ≠ "java/lang/invoke/VarHandle")
    {W9 : Nat} {Pre : Pt → Array Value → Prop} {Post : Pt → Array Value → Option Value → Pt → Prop} {PostX : Pt → Array Value → Addr → Pt → Prop} (hK : vx_Back l R p e below s args y 3 W9 Pre Post PostX)
    {b : Addr} {cellB : Cell} (hcell : T.heap[b]? = some cellB) (hobj : cellB.vm.isStatics = false) (hcls : s.vm.findClass C = some cellB.cls)
    {g : JFrame} (hg : g.method = m) (hsize : g.locals.size = c.maxLocals) {argsL rest : List Value} (hlen : ∀ sig, parseMethodDescriptor y.desc = some sig → argsL.length = sig.parameters.length)
    (hstack : g.stack = argsL.reverse ++ .ref b :: rest) (hW : 2 * g.monitorRoom + (rest.map fun v => v.category).sum ≤ W9) (hdg : decode c.code g.pc = .ok (.invokevirtual index, 3))
    (hpre : ∀ vm₁, s.WarmedH vm₁ → Pre ⟨T.setVm vm₁, locs, cells, slots⟩ (Value.ref b :: argsL).toArray) :
    (∃ (v : Option Value) (vm₁ : Vm) (B : Pt), s.WarmedH vm₁ ∧ Stand p l e R s m args below meth c B.U B.locs B.cells B.slots ∧ Post ⟨T.setVm vm₁, locs, cells, slots⟩ (Value.ref b :: argsL).toArray v B ∧
      ∀ target, Steps p.tables e below (B.U.setTop { g with pc := g.pc + 3, stack := v.toList ++ rest }) target → Steps p.tables e below (T.setTop g) target) ∨
    (∃ (q : Addr) (vm₁ : Vm) (B : Pt), s.WarmedH vm₁ ∧ Stand p l e R s m args below meth c B.U B.locs B.cells B.slots ∧ PostX ⟨T.setVm vm₁, locs, cells, slots⟩ (Value.ref b :: argsL).toArray q B ∧
      Steps p.tables e below (T.setTop g) ((B.U.setTop { g with stack := rest }).pushFrame (.throwing q))) := by
  obtain ⟨mk, methM, hnamed, hmethM, hstM, habM⟩ := Cond.instanceMethod_spec hinst
  obtain ⟨methM', cM, hmethM', -, -, -, -, -, -, hsigM⟩ := Cond.code_spec hnamed hcode
  cases hmethM.symm.trans hmethM'
  obtain ⟨c2, r2, m2, q1, q2, q3, q4, kP, hkP, hkPi⟩ := Cond.selects_spec hsel
  cases hcls.symm.trans q1
  cases (State.methodFound?_of_named hnamed hy).symm.trans q2
  cases hnamed.symm.trans q3
  have hselP : selectMethod e.platform s.vm cellB.cls mk = .method mk := by rw [Launch.admits_selectMethod X.admits]; exact q4
  obtain ⟨vm₁, X₁, hstep₁⟩ := X.invokevirtual hexec hown hlink hnamed hmethM hstM hkP hkPi hy (a := b) (cell := cellB) hcell
    (fun z h => by rw [h] at hobj; cases hobj) hselP hmethM habM hkP hkPi (g := g) hg (argsL := argsL) (rest := rest) (hlen _ hsigM) hstack hdg
  rcases hK m meth c ⟨T.setVm vm₁, locs, cells, slots⟩ { g with stack := rest } (.invokevirtual index) mk (Value.ref b :: argsL).toArray X₁ hg hsize hdg hW (X₁.named hnamed) (hpre vm₁ X₁.warmed) with ⟨v, B, X', hpost, hsteps⟩ | ⟨q, B, X', hpost, hsteps⟩
  · exact Or.inl ⟨v, vm₁, B, X₁.warmed, X', hpost, fun target h => hstep₁ _ fun acts => by rw [doInvoke_state]; exact hsteps.trans h⟩
  · exact Or.inr ⟨q, vm₁, B, X₁.warmed, X', hpost, hstep₁ _ fun acts => by rw [doInvoke_state]; exact hsteps⟩
theorem vx_callS (X : Stand p l e R s m args below meth c T locs cells slots) (hexec : p.tables.exec = Jvm.exec) {own : String} {index : Nat} {y : MethodName} {bytes : ByteArray} {maxL : Nat} {ret : Option FieldType}
    (hown : s.vm.findClass own = some m.cls) (hlink : (Cond.methodLink own index y).before args s = true) (hstat : (Cond.static y).before args s = true) (hinit : (Cond.initialized y.cls).before args s = true)
    (hcode : (Cond.code y bytes maxL ret).before args s = true) (hy : y.cls ≠ "java/lang/invoke/MethodHandle" ∧ y.cls ≠ "java/lang/invoke/VarHandle")
    {W9 : Nat} {Pre : Pt → Array Value → Prop} {Post : Pt → Array Value → Option Value → Pt → Prop} {PostX : Pt → Array Value → Addr → Pt → Prop} (hK : vx_Back l R p e below s args y 3 W9 Pre Post PostX)
    {g : JFrame} (hg : g.method = m) (hsize : g.locals.size = c.maxLocals) {argsL rest : List Value} (hlen : ∀ sig, parseMethodDescriptor y.desc = some sig → argsL.length = sig.parameters.length)
    (hstack : g.stack = argsL.reverse ++ rest) (hW : 2 * g.monitorRoom + (rest.map fun v => v.category).sum ≤ W9) (hdg : decode c.code g.pc = .ok (.invokestatic index, 3))
    (hpre : ∀ vm₁, s.WarmedH vm₁ → Pre ⟨T.setVm vm₁, locs, cells, slots⟩ argsL.toArray) :
    (∃ (v : Option Value) (vm₁ : Vm) (B : Pt), s.WarmedH vm₁ ∧ Stand p l e R s m args below meth c B.U B.locs B.cells B.slots ∧ Post ⟨T.setVm vm₁, locs, cells, slots⟩ argsL.toArray v B ∧
      ∀ target, Steps p.tables e below (B.U.setTop { g with pc := g.pc + 3, stack := v.toList ++ rest }) target → Steps p.tables e below (T.setTop g) target) ∨
    (∃ (q : Addr) (vm₁ : Vm) (B : Pt), s.WarmedH vm₁ ∧ Stand p l e R s m args below meth c B.U B.locs B.cells B.slots ∧ PostX ⟨T.setVm vm₁, locs, cells, slots⟩ argsL.toArray q B ∧
      Steps p.tables e below (T.setTop g) ((B.U.setTop { g with stack := rest }).pushFrame (.throwing q))) := by
  obtain ⟨mk, hnamed⟩ := Cond.code_named hcode
  obtain ⟨methM, cM, hmethM, -, -, -, -, -, -, hsigM⟩ := Cond.code_spec hnamed hcode
  have hstatic : methM.isStatic = true := Cond.static_spec hnamed hmethM hstat
  obtain ⟨kP, hkP, -⟩ := className_of_methodNamed hnamed
  have hinitP : kP.init = .initialized := Cond.initialized_spec (findClass_of_methodNamed hnamed) hkP hinit
  obtain ⟨vm₁, X₁, hstep₁⟩ := X.invokestatic hexec hown hlink hnamed hmethM hstatic hkP hinitP hy (g := g) hg (argsL := argsL) (rest := rest) (hlen _ hsigM) hstack hdg
  rcases hK m meth c ⟨T.setVm vm₁, locs, cells, slots⟩ { g with stack := rest } (.invokestatic index) mk argsL.toArray X₁ hg hsize hdg hW (X₁.named hnamed) (hpre vm₁ X₁.warmed) with ⟨v, B, X', hpost, hsteps⟩ | ⟨q, B, X', hpost, hsteps⟩
  · exact Or.inl ⟨v, vm₁, B, X₁.warmed, X', hpost, fun target h => hstep₁ _ fun acts => by rw [doInvoke_state]; exact hsteps.trans h⟩
  · exact Or.inr ⟨q, vm₁, B, X₁.warmed, X', hpost, hstep₁ _ fun acts => by rw [doInvoke_state]; exact hsteps⟩
end Calls
theorem vx_cls {s : State} {T : State} {vm₁ : Vm} {E : String} {k : ClassId} (hW : s.WarmedH vm₁) (h : (T.setVm vm₁).vm.findClass E = some k) : s.vm.findClass E = some k := by
  have h1 : vm₁.findClass E = some k := h
  rw [hW.alike.findClass] at h1
  exact h1
/-- the method's frame g, with q thrown over it -/
def vx_W (p : Program) (l : Launch) (e : Env) (R : Room) (s : State) (m : MethodId) (args : Array Value) (below : List Frame) (meth : Method) (c : Code) (H : Heap) (locs : List Loc) (cells slots : Nat) (Q : State → Prop) (g : JFrame) (q : Addr) : Prop :=
  ∀ T : State, T.heap = H → Stand p l e R s m args below meth c T locs cells slots → ∃ t, Steps p.tables e below ((T.setTop g).pushFrame (.throwing q)) t ∧ Q t
def vx_Run (p : Program) (l : Launch) (e : Env) (R : Room) (s : State) (m : MethodId) (args : Array Value) (below : List Frame) (meth : Method) (c : Code) (H : Heap) (locs : List Loc) (cells slots mc ms : Nat) (g : JFrame) (rest : List Value) (Qa : State → Outcome → State → Prop) (XC : String → State → State → Prop) (free : Addr → Prop) : Prop :=
  ∀ T : State, T.heap = H → Stand p l e R s m args below meth c T locs cells slots →
    (∃ (v : Option Value) (st₀ t T' : State) (L : List Loc), st₀.heap = H ∧ Stand p l e R s m args below meth c T' (locs ++ L) (cells + mc) (slots + ms) ∧ (∀ q ∈ L, free q.base) ∧ T'.heap = t.heap ∧ T'.vm = t.vm ∧ Qa st₀ (.returned v) t ∧
      Goes p e below T g T' { g with pc := g.pc + 3, stack := v.toList ++ rest }) ∨
    (∃ (q : Addr) (st₀ t T' : State) (L : List Loc) (E : String) (ce : Cell), st₀.heap = H ∧ Stand p l e R s m args below meth c T' (locs ++ L) (cells + mc) (slots + ms) ∧ (∀ z ∈ L, free z.base) ∧ T'.heap = t.heap ∧ T'.vm = t.vm ∧ XC E st₀ t ∧ t.heap[q]? = some ce ∧ ce.vm = .none ∧ s.vm.findClass E = some ce.cls ∧
      Steps p.tables e below (T.setTop g) ((T'.setTop { g with stack := rest }).pushFrame (.throwing q)))
def vx_X {S : Type} (px : S → Prop) (B : String → S → State → Prop) (A : Nat → Prop) : String → State → State → Prop := fun E st t => ∃ u : S, px u ∧ B E u t ∧ va_F A st t
section Runs
variable {p : Program} {l : Launch} {e : Env} {R : Room} {s : State} {m : MethodId} {args : Array Value} {below : List Frame} {meth : Method} {c : Code} {H : Heap} {locs : List Loc} {cells slots : Nat}
variable {y : MethodName} {bytes cc : ByteArray} {maxL nL mc ms n index : Nat} {ret : Option FieldType} {ws : List Cond} {rm : Room} {Pc : Array Value → State → Prop} {Qc : Array Value → State → Outcome → State → Prop} {XC : String → State → State → Prop} {free : Addr → Prop} {Ts : List Cond} {own C : String} {b : Addr} {As rest : List Value} {g : JFrame}
theorem vx_callBack (cb : CallB R s args own index y bytes maxL ret ws rm mc ms n) (hM : vx_Met l y ws rm Pc Qc XC mc ms free) (hbl : FrameBlind Pc) : vx_Back l R p e below s args y 3 8 (PreOf R mc ms Pc) (PostOf Qc mc ms free) (vx_Post XC mc ms free) := by
  obtain ⟨hrc, hrs, hfr, hlo, hws, hcw, -, hini, -⟩ := cb
  exact vx_back (bytes := bytes) (maxL := maxL) (ret := ret) hM hbl hrc hrs hfr hlo hws hcw (fun a' U hW => word_at hW (Or.inl (by first | rfl | simp [Cond.onTables, Cond.keeps, Cond.steady])) hini)
theorem vx_runV (S : CallFix p m c cc nL s args Ts own) (hM : vx_Met l y ws rm Pc Qc XC mc ms free) (cw : CallW R s args own C index y bytes maxL ret ws rm mc ms n) (hp : PreV s H C b Pc As)
    (hg : g.method = m) (hn : As.length = n) (hsize : g.locals.size = nL) (hstack : g.stack = As.reverse ++ .ref b :: rest) (hW : 2 * g.monitorRoom + (rest.map fun v => v.category).sum ≤ 8) (hdg : decode cc g.pc = .ok (.invokevirtual index, 3)) (hf : cells + mc ≤ R.cells ∧ slots + ms ≤ R.slots) :
    vx_Run p l e R s m args below meth c H locs cells slots mc ms g rest (Qc (Value.ref b :: As).toArray) XC free := by
  have hK : vx_Back l R p e below s args y 3 8 (PreOf R mc ms Pc) (PostOf Qc mc ms free) (vx_Post XC mc ms free) := vx_callBack cw.1 hM hp.1
  obtain ⟨⟨-, -, -, -, -, -, hcode, -, hy, hlen, hl⟩, hin, hse⟩ := cw
  obtain ⟨hx, hb, hml, ho, -⟩ := S
  obtain ⟨-, ⟨cellB, hcB, hoB, hclB⟩, hPc⟩ := hp
  intro T hT X
  rcases vx_callV X hx (C := C) (bytes := bytes) (maxL := maxL) (ret := ret) ho hl hin hse hcode hy hK (by rw [hT]; exact hcB) hoB hclB hg (hsize.trans hml.symm) (argsL := As) (rest := rest) (fun sig h => hn.trans (hlen sig h)) hstack hW (by rw [hb]; exact hdg)
    (fun vm₁ hW₁ => ⟨hf.1, hf.2, hPc (T.setVm vm₁) hT hW₁⟩) with ⟨v, vm₁, ⟨U', l2, c2, s2⟩, hW₁, X', ⟨g', mk, t, L, e1, e2, hq, h1, hL, h2, h3⟩, st⟩ | ⟨q, vm₁, ⟨U', l2, c2, s2⟩, hW₁, X', ⟨g', mk, t, L, E, ce, e1, e2, hq, hce, hcv, hcl, h1, hL, h2, h3⟩, st⟩
  · dsimp only [Pt.U, Pt.locs, Pt.cells, Pt.slots] at X' e1 e2 h1 h2 h3 st
    subst h1; subst h2; subst h3
    exact Or.inl ⟨v, (T.setVm vm₁).calling g' mk (Value.ref b :: As).toArray, t, U', L, hT, X', hL, e1, e2, hq, st⟩
  · dsimp only [Pt.U, Pt.locs, Pt.cells, Pt.slots] at X' e1 e2 h1 h2 h3 st hcl
    subst h1; subst h2; subst h3
    exact Or.inr ⟨q, (T.setVm vm₁).calling g' mk (Value.ref b :: As).toArray, t, U', L, E, ce, hT, X', hL, e1, e2, hq, hce, hcv, vx_cls hW₁ hcl, st⟩
theorem vx_runS (S : CallFix p m c cc nL s args Ts own) (hM : vx_Met l y ws rm Pc Qc XC mc ms free) (cw : CallB R s args own index y bytes maxL ret ws rm mc ms n ∧ (Cond.static y).before args s = true) (hp : PreS s H Pc As)
    (hg : g.method = m) (hn : As.length = n) (hsize : g.locals.size = nL) (hstack : g.stack = As.reverse ++ rest) (hW : 2 * g.monitorRoom + (rest.map fun v => v.category).sum ≤ 8) (hdg : decode cc g.pc = .ok (.invokestatic index, 3)) (hf : cells + mc ≤ R.cells ∧ slots + ms ≤ R.slots) :
    vx_Run p l e R s m args below meth c H locs cells slots mc ms g rest (Qc As.toArray) XC free := by
  have hK : vx_Back l R p e below s args y 3 8 (PreOf R mc ms Pc) (PostOf Qc mc ms free) (vx_Post XC mc ms free) := vx_callBack cw.1 hM hp.1
  obtain ⟨⟨-, -, -, -, -, -, hcode, hini, hy, hlen, hl⟩, hstt⟩ := cw
  obtain ⟨hx, hb, hml, ho, -⟩ := S
  intro T hT X
  rcases vx_callS X hx (bytes := bytes) (maxL := maxL) (ret := ret) ho hl hstt hini hcode hy hK hg (hsize.trans hml.symm) (argsL := As) (rest := rest) (fun sig h => hn.trans (hlen sig h)) hstack hW (by rw [hb]; exact hdg)
    (fun vm₁ hW₁ => ⟨hf.1, hf.2, hp.2 (T.setVm vm₁) hT hW₁⟩) with ⟨v, vm₁, ⟨U', l2, c2, s2⟩, hW₁, X', ⟨g', mk, t, L, e1, e2, hq, h1, hL, h2, h3⟩, st⟩ | ⟨q, vm₁, ⟨U', l2, c2, s2⟩, hW₁, X', ⟨g', mk, t, L, E, ce, e1, e2, hq, hce, hcv, hcl, h1, hL, h2, h3⟩, st⟩
  · dsimp only [Pt.U, Pt.locs, Pt.cells, Pt.slots] at X' e1 e2 h1 h2 h3 st
    subst h1; subst h2; subst h3
    exact Or.inl ⟨v, (T.setVm vm₁).calling g' mk As.toArray, t, U', L, hT, X', hL, e1, e2, hq, st⟩
  · dsimp only [Pt.U, Pt.locs, Pt.cells, Pt.slots] at X' e1 e2 h1 h2 h3 st hcl
    subst h1; subst h2; subst h3
    exact Or.inr ⟨q, (T.setVm vm₁).calling g' mk As.toArray, t, U', L, E, ce, hT, X', hL, e1, e2, hq, hce, hcv, vx_cls hW₁ hcl, st⟩
end Runs
section Rows
variable {p : Program} {l : Launch} {e : Env} {R : Room} {s : State} {m : MethodId} {args : Array Value} {below : List Frame} {meth : Method} {c : Code} {H : Heap} {locs : List Loc} {cells slots : Nat} {Q : State → Prop}
variable {mc ms : Nat} {free : Addr → Prop} {A0 A1 : Nat → Prop} {H0 : Heap} {a : Array Value} {pc : Nat} {ls : Array Slot} {st0 rest : List Value}
theorem vx_keep {st₀ t T' : State} {L : List Loc} (h0 : st₀.heap = H) (e1 : T'.heap = t.heap) (hS : va_S A0 H0 H locs) (hA : ∀ q, q < H.size → A1 q → A0 q) (hf : ∀ q, free q → A0 q) (hL : ∀ q ∈ L, free q.base) (hF : va_F A1 st₀ t) :
    H.size ≤ T'.heap.size ∧ (∀ q : Nat, q < H.size → ¬ A1 q → T'.heap[q]? = H[q]?) ∧ va_S A0 H0 T'.heap (locs ++ L) := by
  obtain ⟨hz, hk⟩ := hF
  rw [h0] at hz hk
  exact ⟨by rw [e1]; exact hz, fun q h1 h2 => by rw [e1]; exact hk q h1 h2,
    ⟨Nat.le_trans hS.1 (by rw [e1]; exact hz), fun q h1 h2 => by rw [e1, hk q (Nat.lt_of_lt_of_le h1 hS.1) (fun z => h2 (hA q (Nat.lt_of_lt_of_le h1 hS.1) z))]; exact hS.2.1 q h1 h2, fun q hq => by
      rcases List.mem_append.mp hq with h | h
      · exact hS.2.2 q h
      · exact hf _ (hL q h)⟩⟩
theorem vx_calli {S SX : Type} {post : Int32 → S → Prop} {px : SX → Prop} {B : S → State → Prop} {BX : String → SX → State → Prop} {AX : Nat → Prop} (hr : vx_Run p l e R s m args below meth c H locs cells slots mc ms (F0 m pc ls st0) rest (va_Qi post B A1 a) (vx_X px BX AX) free) (hS : va_S A0 H0 H locs) (hA : ∀ q, q < H.size → A1 q → A0 q) (hf : ∀ q, free q → A0 q) (hAX : ∀ q, q < H.size → AX q → A0 q)
    (kx : ∀ (E : String) (ce : Cell) (q9 : Addr) (u : SX) (t : State) (H1 : Heap) (locs1 : List Loc), t.heap = H1 → s.vm.Alike t.vm → px u → BX E u t → H.size ≤ H1.size → (∀ q : Nat, q < H.size → ¬ AX q → H1[q]? = H[q]?) → va_S A0 H0 H1 locs1 → H1[q9]? = some ce → ce.vm = .none → s.vm.findClass E = some ce.cls → vx_W p l e R s m args below meth c H1 locs1 (cells + mc) (slots + ms) Q (F0 m pc ls rest) q9)
    (kk : ∀ (r : Int32) (u : S) (t : State) (H1 : Heap) (locs1 : List Loc), t.heap = H1 → s.vm.Alike t.vm → post r u → B u t → H.size ≤ H1.size → (∀ q : Nat, q < H.size → ¬ A1 q → H1[q]? = H[q]?) → va_S A0 H0 H1 locs1 → W p l e R s m args below meth c H1 locs1 (cells + mc) (slots + ms) Q (F0 m (pc + 3) ls (.int r :: rest))) : W p l e R s m args below meth c H locs cells slots Q (F0 m pc ls st0) := by
  intro T hT X
  rcases hr T hT X with ⟨v, st₀, t, T', L, h0, X', hL, e1, e2, ⟨⟨r, u, hv, hp, hb⟩, hF⟩, st⟩ | ⟨q, st₀, t, T', L, E, ce, h0, X', hL, e1, e2, ⟨u, hp, hb, hF⟩, hce, hcv, hcl, st⟩
  · cases hv
    obtain ⟨k1, k2, k3⟩ := vx_keep h0 e1 hS hA hf hL hF
    obtain ⟨t2, a1, b1⟩ := kk r u t T'.heap (locs ++ L) e1.symm (by rw [← e2]; exact X'.warmed.alike) hp hb k1 k2 k3 T' rfl X'
    exact ⟨t2, st t2 a1, b1⟩
  · obtain ⟨k1, k2, k3⟩ := vx_keep h0 e1 hS hAX hf hL hF
    obtain ⟨t2, a1, b1⟩ := kx E ce q u t T'.heap (locs ++ L) e1.symm (by rw [← e2]; exact X'.warmed.alike) hp hb k1 k2 k3 (by rw [e1]; exact hce) hcv hcl T' rfl X'
    exact ⟨t2, st.trans a1, b1⟩
theorem vx_calll {S SX : Type} {post : Int64 → S → Prop} {px : SX → Prop} {B : S → State → Prop} {BX : String → SX → State → Prop} {AX : Nat → Prop} (hr : vx_Run p l e R s m args below meth c H locs cells slots mc ms (F0 m pc ls st0) rest (va_Ql post B A1 a) (vx_X px BX AX) free) (hS : va_S A0 H0 H locs) (hA : ∀ q, q < H.size → A1 q → A0 q) (hf : ∀ q, free q → A0 q) (hAX : ∀ q, q < H.size → AX q → A0 q)
    (kx : ∀ (E : String) (ce : Cell) (q9 : Addr) (u : SX) (t : State) (H1 : Heap) (locs1 : List Loc), t.heap = H1 → s.vm.Alike t.vm → px u → BX E u t → H.size ≤ H1.size → (∀ q : Nat, q < H.size → ¬ AX q → H1[q]? = H[q]?) → va_S A0 H0 H1 locs1 → H1[q9]? = some ce → ce.vm = .none → s.vm.findClass E = some ce.cls → vx_W p l e R s m args below meth c H1 locs1 (cells + mc) (slots + ms) Q (F0 m pc ls rest) q9)
    (kk : ∀ (r : Int64) (u : S) (t : State) (H1 : Heap) (locs1 : List Loc), t.heap = H1 → s.vm.Alike t.vm → post r u → B u t → H.size ≤ H1.size → (∀ q : Nat, q < H.size → ¬ A1 q → H1[q]? = H[q]?) → va_S A0 H0 H1 locs1 → W p l e R s m args below meth c H1 locs1 (cells + mc) (slots + ms) Q (F0 m (pc + 3) ls (.long r :: rest))) : W p l e R s m args below meth c H locs cells slots Q (F0 m pc ls st0) := by
  intro T hT X
  rcases hr T hT X with ⟨v, st₀, t, T', L, h0, X', hL, e1, e2, ⟨⟨r, u, hv, hp, hb⟩, hF⟩, st⟩ | ⟨q, st₀, t, T', L, E, ce, h0, X', hL, e1, e2, ⟨u, hp, hb, hF⟩, hce, hcv, hcl, st⟩
  · cases hv
    obtain ⟨k1, k2, k3⟩ := vx_keep h0 e1 hS hA hf hL hF
    obtain ⟨t2, a1, b1⟩ := kk r u t T'.heap (locs ++ L) e1.symm (by rw [← e2]; exact X'.warmed.alike) hp hb k1 k2 k3 T' rfl X'
    exact ⟨t2, st t2 a1, b1⟩
  · obtain ⟨k1, k2, k3⟩ := vx_keep h0 e1 hS hAX hf hL hF
    obtain ⟨t2, a1, b1⟩ := kx E ce q u t T'.heap (locs ++ L) e1.symm (by rw [← e2]; exact X'.warmed.alike) hp hb k1 k2 k3 (by rw [e1]; exact hce) hcv hcl T' rfl X'
    exact ⟨t2, st.trans a1, b1⟩
theorem vx_callf {S SX : Type} {post : UInt32 → S → Prop} {px : SX → Prop} {B : S → State → Prop} {BX : String → SX → State → Prop} {AX : Nat → Prop} (hr : vx_Run p l e R s m args below meth c H locs cells slots mc ms (F0 m pc ls st0) rest (va_Qf post B A1 a) (vx_X px BX AX) free) (hS : va_S A0 H0 H locs) (hA : ∀ q, q < H.size → A1 q → A0 q) (hf : ∀ q, free q → A0 q) (hAX : ∀ q, q < H.size → AX q → A0 q)
    (kx : ∀ (E : String) (ce : Cell) (q9 : Addr) (u : SX) (t : State) (H1 : Heap) (locs1 : List Loc), t.heap = H1 → s.vm.Alike t.vm → px u → BX E u t → H.size ≤ H1.size → (∀ q : Nat, q < H.size → ¬ AX q → H1[q]? = H[q]?) → va_S A0 H0 H1 locs1 → H1[q9]? = some ce → ce.vm = .none → s.vm.findClass E = some ce.cls → vx_W p l e R s m args below meth c H1 locs1 (cells + mc) (slots + ms) Q (F0 m pc ls rest) q9)
    (kk : ∀ (r : UInt32) (u : S) (t : State) (H1 : Heap) (locs1 : List Loc), t.heap = H1 → s.vm.Alike t.vm → post r u → B u t → H.size ≤ H1.size → (∀ q : Nat, q < H.size → ¬ A1 q → H1[q]? = H[q]?) → va_S A0 H0 H1 locs1 → W p l e R s m args below meth c H1 locs1 (cells + mc) (slots + ms) Q (F0 m (pc + 3) ls (.float r :: rest))) : W p l e R s m args below meth c H locs cells slots Q (F0 m pc ls st0) := by
  intro T hT X
  rcases hr T hT X with ⟨v, st₀, t, T', L, h0, X', hL, e1, e2, ⟨⟨r, u, hv, hp, hb⟩, hF⟩, st⟩ | ⟨q, st₀, t, T', L, E, ce, h0, X', hL, e1, e2, ⟨u, hp, hb, hF⟩, hce, hcv, hcl, st⟩
  · cases hv
    obtain ⟨k1, k2, k3⟩ := vx_keep h0 e1 hS hA hf hL hF
    obtain ⟨t2, a1, b1⟩ := kk r u t T'.heap (locs ++ L) e1.symm (by rw [← e2]; exact X'.warmed.alike) hp hb k1 k2 k3 T' rfl X'
    exact ⟨t2, st t2 a1, b1⟩
  · obtain ⟨k1, k2, k3⟩ := vx_keep h0 e1 hS hAX hf hL hF
    obtain ⟨t2, a1, b1⟩ := kx E ce q u t T'.heap (locs ++ L) e1.symm (by rw [← e2]; exact X'.warmed.alike) hp hb k1 k2 k3 (by rw [e1]; exact hce) hcv hcl T' rfl X'
    exact ⟨t2, st.trans a1, b1⟩
theorem vx_calld {S SX : Type} {post : UInt64 → S → Prop} {px : SX → Prop} {B : S → State → Prop} {BX : String → SX → State → Prop} {AX : Nat → Prop} (hr : vx_Run p l e R s m args below meth c H locs cells slots mc ms (F0 m pc ls st0) rest (va_Qd post B A1 a) (vx_X px BX AX) free) (hS : va_S A0 H0 H locs) (hA : ∀ q, q < H.size → A1 q → A0 q) (hf : ∀ q, free q → A0 q) (hAX : ∀ q, q < H.size → AX q → A0 q)
    (kx : ∀ (E : String) (ce : Cell) (q9 : Addr) (u : SX) (t : State) (H1 : Heap) (locs1 : List Loc), t.heap = H1 → s.vm.Alike t.vm → px u → BX E u t → H.size ≤ H1.size → (∀ q : Nat, q < H.size → ¬ AX q → H1[q]? = H[q]?) → va_S A0 H0 H1 locs1 → H1[q9]? = some ce → ce.vm = .none → s.vm.findClass E = some ce.cls → vx_W p l e R s m args below meth c H1 locs1 (cells + mc) (slots + ms) Q (F0 m pc ls rest) q9)
    (kk : ∀ (r : UInt64) (u : S) (t : State) (H1 : Heap) (locs1 : List Loc), t.heap = H1 → s.vm.Alike t.vm → post r u → B u t → H.size ≤ H1.size → (∀ q : Nat, q < H.size → ¬ A1 q → H1[q]? = H[q]?) → va_S A0 H0 H1 locs1 → W p l e R s m args below meth c H1 locs1 (cells + mc) (slots + ms) Q (F0 m (pc + 3) ls (.double r :: rest))) : W p l e R s m args below meth c H locs cells slots Q (F0 m pc ls st0) := by
  intro T hT X
  rcases hr T hT X with ⟨v, st₀, t, T', L, h0, X', hL, e1, e2, ⟨⟨r, u, hv, hp, hb⟩, hF⟩, st⟩ | ⟨q, st₀, t, T', L, E, ce, h0, X', hL, e1, e2, ⟨u, hp, hb, hF⟩, hce, hcv, hcl, st⟩
  · cases hv
    obtain ⟨k1, k2, k3⟩ := vx_keep h0 e1 hS hA hf hL hF
    obtain ⟨t2, a1, b1⟩ := kk r u t T'.heap (locs ++ L) e1.symm (by rw [← e2]; exact X'.warmed.alike) hp hb k1 k2 k3 T' rfl X'
    exact ⟨t2, st t2 a1, b1⟩
  · obtain ⟨k1, k2, k3⟩ := vx_keep h0 e1 hS hAX hf hL hF
    obtain ⟨t2, a1, b1⟩ := kx E ce q u t T'.heap (locs ++ L) e1.symm (by rw [← e2]; exact X'.warmed.alike) hp hb k1 k2 k3 (by rw [e1]; exact hce) hcv hcl T' rfl X'
    exact ⟨t2, st.trans a1, b1⟩
theorem vx_callv {S SX : Type} {post : S → Prop} {px : SX → Prop} {B : S → State → Prop} {BX : String → SX → State → Prop} {AX : Nat → Prop} (hr : vx_Run p l e R s m args below meth c H locs cells slots mc ms (F0 m pc ls st0) rest (va_Qv post B A1 a) (vx_X px BX AX) free) (hS : va_S A0 H0 H locs) (hA : ∀ q, q < H.size → A1 q → A0 q) (hf : ∀ q, free q → A0 q) (hAX : ∀ q, q < H.size → AX q → A0 q)
    (kx : ∀ (E : String) (ce : Cell) (q9 : Addr) (u : SX) (t : State) (H1 : Heap) (locs1 : List Loc), t.heap = H1 → s.vm.Alike t.vm → px u → BX E u t → H.size ≤ H1.size → (∀ q : Nat, q < H.size → ¬ AX q → H1[q]? = H[q]?) → va_S A0 H0 H1 locs1 → H1[q9]? = some ce → ce.vm = .none → s.vm.findClass E = some ce.cls → vx_W p l e R s m args below meth c H1 locs1 (cells + mc) (slots + ms) Q (F0 m pc ls rest) q9)
    (kk : ∀ (u : S) (t : State) (H1 : Heap) (locs1 : List Loc), t.heap = H1 → s.vm.Alike t.vm → post u → B u t → H.size ≤ H1.size → (∀ q : Nat, q < H.size → ¬ A1 q → H1[q]? = H[q]?) → va_S A0 H0 H1 locs1 → W p l e R s m args below meth c H1 locs1 (cells + mc) (slots + ms) Q (F0 m (pc + 3) ls (rest))) : W p l e R s m args below meth c H locs cells slots Q (F0 m pc ls st0) := by
  intro T hT X
  rcases hr T hT X with ⟨v, st₀, t, T', L, h0, X', hL, e1, e2, ⟨⟨u, hv, hp, hb⟩, hF⟩, st⟩ | ⟨q, st₀, t, T', L, E, ce, h0, X', hL, e1, e2, ⟨u, hp, hb, hF⟩, hce, hcv, hcl, st⟩
  · cases hv
    obtain ⟨k1, k2, k3⟩ := vx_keep h0 e1 hS hA hf hL hF
    obtain ⟨t2, a1, b1⟩ := kk u t T'.heap (locs ++ L) e1.symm (by rw [← e2]; exact X'.warmed.alike) hp hb k1 k2 k3 T' rfl X'
    exact ⟨t2, st t2 a1, b1⟩
  · obtain ⟨k1, k2, k3⟩ := vx_keep h0 e1 hS hAX hf hL hF
    obtain ⟨t2, a1, b1⟩ := kx E ce q u t T'.heap (locs ++ L) e1.symm (by rw [← e2]; exact X'.warmed.alike) hp hb k1 k2 k3 (by rw [e1]; exact hce) hcv hcl T' rfl X'
    exact ⟨t2, st.trans a1, b1⟩
end Rows
section Ends
variable {p : Program} {l : Launch} {e : Env} {R : Room} {s : State} {m : MethodId} {args : Array Value} {below : List Frame} {meth : Method} {c : Code} {H : Heap} {locs : List Loc} {cells slots : Nat} {Q : State → Prop}
variable {mc ms : Nat} {free : Addr → Prop} {A0 A1 : Nat → Prop} {H0 : Heap} {a : Array Value} {ls : Array Slot} {st0 rest : List Value}
variable {Qc : Array Value → State → Outcome → State → Prop} {XC : String → State → State → Prop}
/-- what a body that may throw owes at its end -/
def vx_MQ (below : List Frame) (Qc : Array Value → State → Outcome → State → Prop) (XC : String → State → State → Prop) (a : Array Value) (s : State) (mc ms : Nat) (free : Addr → Prop) : State → Prop := fun t =>
  ∃ o, t.status = .running ∧ Ended t below o ∧ vx_Q Qc XC mc ms free a s o t
theorem vx_ret {g : JFrame} {mc ms : Nat} (k : W p l e R s m args below meth c H locs cells slots (MQ below Qc args s mc ms free) g) : W p l e R s m args below meth c H locs cells slots (vx_MQ below Qc XC args s mc ms free) g := by
  intro T hT X
  obtain ⟨t, a1, o, b1, b2, b3, b4⟩ := k T hT X
  exact ⟨t, a1, o, b1, b2, Or.inl ⟨b3, b4⟩⟩
/-- not caught here: it goes on to the caller -/
theorem vx_widen {g : JFrame} {q : Addr} {k n : Nat} (h1 : cells ≤ k) (h2 : slots ≤ n) (kk : vx_W p l e R s m args below meth c H locs k n Q g q) : vx_W p l e R s m args below meth c H locs cells slots Q g q := fun T hT X => kk T hT (stand_widen X h1 h2)
theorem vx_out {pc : Nat} {E : String} {ce : Cell} {q : Addr} {mc ms : Nat} (hout : ∀ x ∈ c.exceptionTable.toList, covers x pc = false) (hlocks : meth.locks = false) (hcell : H[q]? = some ce) (hv : ce.vm = .none) (hcl : s.vm.findClass E = some ce.cls)
    (hx : ∀ t : State, t.heap = H → s.vm.Alike t.vm → XC E s t) (hf : ∀ z ∈ locs, free z.base) (hc : cells ≤ mc) (hs : slots ≤ ms) :
    vx_W p l e R s m args below meth c H locs cells slots (vx_MQ below Qc XC args s mc ms free) (F0 m pc ls rest) q := by
  intro T hT X
  obtain ⟨st1, hrun, hend, hW, hsm⟩ := X.leaveThrown q (g := F0 m pc ls rest) rfl rfl rfl hout hlocks
  have hcell9 : (T.setFrames (.throwing q :: below)).heap[q]? = some ce := by
    show T.heap[q]? = some ce
    rw [hT]; exact hcell
  exact ⟨_, st1, .threw q, hrun, hend, Or.inr ⟨q, rfl, E, ce, locs, hx _ hT hW.alike, hcell9, hv, hcl, hW, hsm.mono hc hs, hf⟩⟩
theorem vx_frame {U : State} {k n : Nat} (h : s.sameButNew ({ U with vm := s.vm } : State) locs k n) : s.heap.size ≤ U.heap.size ∧ ∀ q : Nat, q < s.heap.size → (∀ z ∈ locs, z.base ≠ q) → U.heap[q]? = s.heap[q]? := by
  obtain ⟨-, h2, -, -, -, h6⟩ := h
  refine ⟨h2, fun q hq hz => ?_⟩
  obtain ⟨c9, e1, e2, e3, e4⟩ := h6 q _ (Array.getElem?_eq_getElem hq)
  have hs : c9.slots = (s.heap[q]).slots := Array.ext_getElem? fun i => e4 i fun hm => hz _ hm rfl
  have h9 : c9 = s.heap[q] := by
    rw [hs] at e2
    exact e2
  have e5 : U.heap[q]? = some c9 := e1
  rw [e5, h9, Array.getElem?_eq_getElem hq]
/-- the words of a throw but the four that speak of the heap -/
def vx_no (w : Cond) : Bool := decide (w ≠ .isRef (.static Bundle.tN "UNASSIGNED_STACK" Bundle.steD)) && decide (w ≠ .isRef (.static Bundle.tN "SUPPRESSED_SENTINEL" Bundle.listD)) && decide (w ≠ .laysStatic Bundle.tN "UNASSIGNED_STACK" Bundle.steD) && decide (w ≠ .laysStatic Bundle.tN "SUPPRESSED_SENTINEL" Bundle.listD)
def vx_at0 (own : String) (ic : Nat) (X : String) (names : List String) : List Cond := (Bundle.ownAtoms0 own ic X names).filter vx_no
def vx_atS (own : String) (ic : Nat) (X : String) (names : List String) : List Cond := (Bundle.ownAtoms own ic X names).filter vx_no
/-- a word that the tables alone decide, or a good one -/
def vx_ot (w : Cond) : Bool := w.onTables || goodWord w
theorem vx_ot_at {args a' : Array Value} {s U : State} {w : Cond} (hW : s.WarmedH U.vm) (hvm : s.vm = U.vm) (hg : vx_ot w = true) (h : w.before args s = true) : w.before a' U = true := by
  simp only [vx_ot, Bool.or_eq_true] at hg
  rcases hg with hg | hg
  · exact va_tabs hg hvm h
  · exact word_at hW (good_of_word hg) h
/-- a list's words: the good ones out of the method's own list, the others by premises of their own -/
theorem vx_hat {args : Array Value} {s : State} {L B : List Cond} (h1 : ∀ w ∈ L.filter goodWord, w.before args s = true) (h2 : ∀ w ∈ L.filter (fun w => !goodWord w), w ∈ B) (h3 : ∀ w ∈ B, w.before args s = true) : ∀ w ∈ L, w.before args s = true := by
  intro w hw
  by_cases g : goodWord w = true
  · exact h1 w (List.mem_filter.mpr ⟨hw, g⟩)
  · refine h3 w (h2 w (List.mem_filter.mpr ⟨hw, ?_⟩))
    show (!goodWord w) = true
    cases hgw : goodWord w
    · rfl
    · exact absurd hgw g
theorem vx_c {args : Array Value} {s : State} {w : Cond} {B : List Cond} (h : w.before args s = true) (t : ∀ w ∈ B, w.before args s = true) : ∀ w' ∈ w :: B, w'.before args s = true := fun w' h' => (List.mem_cons.mp h').elim (fun e => by rw [e]; exact h) (t w')
theorem vx_n {args : Array Value} {s : State} : ∀ w ∈ ([] : List Cond), w.before args s = true := fun _ h => nomatch h
theorem vx_own {args : Array Value} {s : State} {L : List Cond} (h1 : ∀ w ∈ L.filter vx_no, w.before args s = true)
    (hU : (Cond.isRef (.static Bundle.tN "UNASSIGNED_STACK" Bundle.steD)).before args s = true) (hN : (Cond.isRef (.static Bundle.tN "SUPPRESSED_SENTINEL" Bundle.listD)).before args s = true)
    (lU : (Cond.laysStatic Bundle.tN "UNASSIGNED_STACK" Bundle.steD).before args s = true) (lN : (Cond.laysStatic Bundle.tN "SUPPRESSED_SENTINEL" Bundle.listD).before args s = true) : ∀ w ∈ L, w.before args s = true := by
  intro w hw
  by_cases e1 : w = .isRef (.static Bundle.tN "UNASSIGNED_STACK" Bundle.steD)
  · rw [e1]; exact hU
  · by_cases e2 : w = .isRef (.static Bundle.tN "SUPPRESSED_SENTINEL" Bundle.listD)
    · rw [e2]; exact hN
    · by_cases e3 : w = .laysStatic Bundle.tN "UNASSIGNED_STACK" Bundle.steD
      · rw [e3]; exact lU
      · by_cases e4 : w = .laysStatic Bundle.tN "SUPPRESSED_SENTINEL" Bundle.listD
        · rw [e4]; exact lN
        · exact h1 w (List.mem_filter.mpr ⟨hw, by unfold vx_no; rw [decide_eq_true e1, decide_eq_true e2, decide_eq_true e3, decide_eq_true e4]; rfl⟩)
/-- where a static field lies, its class's statics cell in H -/
def vx_L (C n d : String) (A : Nat → Prop) (U : State) (H : Heap) : Prop := ∃ (c : ClassId) (k : Class) (i : Nat) (f : Field) (a : Nat) (cell : Cell), U.vm.findClass C = some c ∧ U.fieldFound? C n d = some (c, k, i, f) ∧ f.isStatic = true ∧ k.statics = some a ∧ H[a]? = some cell ∧ cell.vm.isStatics = true ∧ cell.cls = c ∧ f.slot < cell.slots.size ∧ k.staticTypes[f.slot]? = some f.type ∧ ¬ A a
theorem vx_L.moved {C n d : String} {A : Nat → Prop} {u U : State} {H : Heap} (hvm : u.vm.Alike U.vm) (h : vx_L C n d A u H) : vx_L C n d A U H := by
  obtain ⟨c, k, i, f, a, cell, h1, h2, h3, h4, h5, h6, h7, h8, h9, h10⟩ := h
  obtain ⟨k', hi', he⟩ := State.fieldFound?_setVm hvm h2
  exact ⟨c, k', i, f, a, cell, by rw [hvm.findClass]; exact h1, hi', h3, by rw [he]; exact h4, h5, h6, h7, h8, by rw [he]; exact h9, h10⟩
theorem vx_L.kept {C n d : String} {A : Nat → Prop} {U : State} {H H1 : Heap} (h : vx_L C n d A U H) (hq : ∀ a : Nat, a < H.size → ¬ A a → H1[a]? = H[a]?) : vx_L C n d A U H1 := by
  obtain ⟨c, k, i, f, a, cell, h1, h2, h3, h4, h5, h6, h7, h8, h9, h10⟩ := h
  exact ⟨c, k, i, f, a, cell, h1, h2, h3, h4, by rw [hq a (Array.getElem?_eq_some_iff.mp h5).1 h10]; exact h5, h6, h7, h8, h9, h10⟩
theorem vx_L.narrow {C n d : String} {A B : Nat → Prop} {U : State} {H : Heap} (h : vx_L C n d A U H) (hAB : ∀ q, B q → A q) : vx_L C n d B U H := by
  obtain ⟨c, k, i, f, a, cell, h1, h2, h3, h4, h5, h6, h7, h8, h9, h10⟩ := h
  exact ⟨c, k, i, f, a, cell, h1, h2, h3, h4, h5, h6, h7, h8, h9, fun z => h10 (hAB _ z)⟩
theorem vx_L.word {C n d : String} {A : Nat → Prop} {s : State} {args : Array Value} (h : vx_L C n d A s s.heap) : (Cond.laysStatic C n d).before args s = true := by
  obtain ⟨c, k, i, f, a, cell, h1, h2, h3, h4, h5, h6, h7, h8, h9, -⟩ := h
  show (Cond.laysStatic C n d).holds args s none s [] = true
  exact Cond.laysStatic_of h1 h2 h3 h4 h5 h6 h7 h8 h9
/-- .. and what it holds: null or some reference -/
def vx_Zq (C n d : String) (A : Nat → Prop) (U : State) (H : Heap) : Prop := va_Zq C n d A U H ∧ vx_L C n d A U H
theorem vx_Zq.moved {C n d : String} {A : Nat → Prop} {u U : State} {H : Heap} (hvm : u.vm.Alike U.vm) (h : vx_Zq C n d A u H) : vx_Zq C n d A U H := ⟨va_Zq.moved hvm h.1, vx_L.moved hvm h.2⟩
theorem vx_Zq.kept {C n d : String} {A : Nat → Prop} {U : State} {H H1 : Heap} (h : vx_Zq C n d A U H) (hq : ∀ a : Nat, a < H.size → ¬ A a → H1[a]? = H[a]?) : vx_Zq C n d A U H1 := ⟨va_Zq.kept h.1 hq, vx_L.kept h.2 hq⟩
theorem vx_Zq.narrow {C n d : String} {A B : Nat → Prop} {U : State} {H : Heap} (h : vx_Zq C n d A U H) (hAB : ∀ q, B q → A q) : vx_Zq C n d B U H := ⟨va_Zq.narrow h.1 hAB, vx_L.narrow h.2 hAB⟩
theorem vx_Zqof {args : Array Value} {s : State} {C n d : String} {A : Nat → Prop} (hl : (Cond.laysStatic C n d).before args s = true) (hini : (Cond.initialized C).before args s = true) (h : (Cond.isRef (.static C n d)).before args s = true) (hA : ∀ a : Nat, a < s.heap.size → ¬ A a) : vx_Zq C n d A s s.heap := by
  refine ⟨va_Zqof hl hini h hA, ?_⟩
  obtain ⟨c, k, i, f, a, cell, h1, h2, h3, h4, h5, h6, h7, h8, h9⟩ := Cond.laysStatic_spec hl
  exact ⟨c, k, i, f, a, cell, h1, h2, h3, h4, h5, h6, h7, h8, h9, hA a (Array.getElem?_eq_some_iff.mp h5).1⟩
theorem vx_isRef {C n d : String} {v : Value} {A : Nat → Prop} {s : State} {args : Array Value} (h : va_Z C n d v A s s.heap) (hv : v.isRef = true) : (Cond.isRef (.static C n d)).before args s = true := by
  obtain ⟨cf, kf, fi, f, a, cell, h1, h2, h3, h4, h5, h6, h7, -⟩ := h
  have he : (Term.static C n d).eval args s none [] s = some v := by
    simp [Term.eval, State.fieldNamed?, h1, h2, h4, h5, h6, h7]
  simp only [Cond.before, Cond.holds, Cond.value, he]
  cases v <;> simp_all [Value.isRef]
theorem vx_isRefq {C n d : String} {A : Nat → Prop} {s : State} {args : Array Value} (h : va_Zq C n d A s s.heap) : (Cond.isRef (.static C n d)).before args s = true := by
  rcases h with h | ⟨t, h⟩
  · exact vx_isRef h rfl
  · exact vx_isRef h rfl
/-- the same frame, seen from here: as if the method were called anew in this heap -/
theorem vx_rebase {T : State} (X : Stand p l e R s m args below meth c T locs cells slots) {R' : Room} (hf : R'.frames ≤ R.frames) (hl : R'.locals ≤ R.locals) (hc : cells + R'.cells ≤ R.cells) (hs : slots + R'.slots ≤ R.slots) :
    Stand p l e R' ((T.setVm s.vm).setFrames (.invoking m args :: below)) m args below meth c T [] 0 0 := by
  have htop : (T.setVm s.vm).topJava?.isSome := X.here.top
  have hF : ((T.setVm s.vm).setFrames (.invoking m args :: below)).frames = .invoking m args :: below := State.frames_setFrames _ (State.cur_lt_of_top htop)
  obtain ⟨g₀, hg0⟩ := Option.isSome_iff_exists.mp htop
  obtain ⟨r, hr⟩ := State.topJava?_eq_some.mp hg0
  have hl9 : e.platform.stackLimits (T.setVm s.vm).me = e.platform.stackLimits s.me := X.limits
  have hb9 : (T.setVm s.vm).me.stackBytes = s.me.stackBytes := X.bytes
  refine ⟨X.admits, X.cas, X.clock, hF, ?_, X.hears, X.method, X.code, X.here, X.tail, X.warmed, ?_, ?_, ?_⟩
  · have h := X.room
    have hU : ((T.setVm s.vm).setFrames (.invoking m args :: below)).localsInUse = s.localsInUse := by
      rw [State.localsInUse_invoking hF (meth := meth) (c := c) X.method X.code, State.localsInUse_invoking X.frames X.method X.code]
    simp only [State.hasRoom, Bool.and_eq_true, decide_eq_true_eq] at h ⊢
    obtain ⟨⟨⟨⟨h1, h2, h3, h4, h5, h6⟩, h7⟩, h8⟩, h9⟩ := h
    rw [X.frames, List.length_cons] at h2 h3
    have q1 := X.heapSize
    have q2 := X.used
    simp only [hF, hU, List.length_cons, State.stackLimits_setFrames, State.stackBytes_setFrames, hl9, hb9]
    refine ⟨⟨⟨⟨by omega, by omega, by omega, by omega, by omega, h6⟩, ?_⟩, ?_⟩, X.book⟩
    · show T.heap.size + R'.cells ≤ e.platform.maxCells
      omega
    · show T.slotsUsed + R'.slots ≤ e.platform.maxSlots
      omega
  · rw [State.stackLimits_setFrames]; rfl
  · rw [State.stackBytes_setFrames]; rfl
  · refine ⟨?_, Nat.le_refl _, Nat.le_refl _, ?_, ?_, fun a c9 h9 => ⟨c9, h9, rfl, rfl, fun _ _ => rfl⟩⟩
    · obtain ⟨t, ht, -⟩ := State.frames_cons hr
      show T.setVm s.vm = { ((T.setVm s.vm).setFrames (.invoking m args :: below)).setFrames (T.setVm s.vm).frames with heap := T.heap, slotsUsed := T.slotsUsed }
      rw [State.setFrames_setFrames, State.setFrames_self ht]
      rfl
    · show T.slotsUsed = T.slotsUsed + ((T.heap.toList.drop T.heap.size).map (·.slots.size)).sum
      rw [List.drop_eq_nil_of_le (Nat.le_of_eq Array.length_toList)]
      rfl
    · show ((T.heap.toList.drop T.heap.size).map (·.slots.size)).sum ≤ 0
      rw [List.drop_eq_nil_of_le (Nat.le_of_eq Array.length_toList)]
      exact Nat.le_refl _
/-- 'throw new E()': new; dup; invokespecial; athrow -/
theorem vx_throw0 {cc : ByteArray} {pc : Nat} (hexec : p.tables.exec = Jvm.exec) (hb : c.code = cc) (hl : l.stackTraces = false) {own cls : String} {names : List String} {ik ic mc ms : Nat} {A : Nat → Prop}
    (hown : s.vm.findClass own = some m.cls) (hcls : Bundle.fit cls = true) (hnames : ∀ n ∈ names, Bundle.fit n = true)
    (hk : (Cond.classLink own ik cls).before args s = true) (hini : (Cond.initialized cls).before args s = true) (hat : ∀ w ∈ vx_at0 own ic cls names, w.before args s = true)
    (hgood : ∀ w ∈ Cond.classLink own ik cls :: Cond.initialized cls :: vx_at0 own ic cls names, vx_ot w = true)
    (hU : vx_Zq Bundle.tN "UNASSIGNED_STACK" Bundle.steD A s s.heap) (hN : vx_Zq Bundle.tN "SUPPRESSED_SENTINEL" Bundle.listD A s s.heap) (hS : va_S A s.heap H locs) (hsize : ls.size = c.maxLocals)
    (d0 : decode cc pc = .ok (.new ik, 3)) (d3 : decode cc (pc + 3) = .ok (.dup, 1)) (d4 : decode cc (pc + 4) = .ok (.invokespecial ic, 3)) (d7 : decode cc (pc + 7) = .ok (.athrow, 1))
    (hout : ∀ x ∈ c.exceptionTable.toList, covers x (pc + 7) = false)
    (hRframes : names.length + 3 < R.frames) (hRlocals : (rest.map fun v => v.category).sum + (13 * (names.length + 1) + 42) ≤ R.locals) (hRcells : cells + 1 ≤ R.cells) (hRslots : slots + 6 ≤ R.slots) (hlocks : meth.locks = false)
    (hx : ∀ t : State, s.vm.Alike t.vm → H.size ≤ t.heap.size → (∀ q : Nat, q < H.size → t.heap[q]? = H[q]?) → XC cls s t)
    (hf : ∀ z ∈ locs, free z.base) (hc : cells + 1 ≤ mc) (hs : slots + 6 ≤ ms) :
    W p l e R s m args below meth c H locs cells slots (vx_MQ below Qc XC args s mc ms free) (F0 m pc ls rest) := by
  intro T hT X
  have htr : e.platform.stackTraces = false := (show e.platform.stackTraces = l.stackTraces by rw [X.admits.platform]).trans hl
  have Y := vx_rebase X (R' := { frames := R.frames, locals := R.locals, cells := 1, slots := 6 }) (Nat.le_refl _) (Nat.le_refl _) hRcells hRslots
  obtain ⟨s', hA⟩ : ∃ z, z = (T.setVm s.vm).setFrames (.invoking m args :: below) := ⟨_, rfl⟩
  rw [← hA] at Y
  have hvm : s'.vm = s.vm := by rw [hA]; rfl
  have hhp : s'.heap = H := by rw [hA]; exact hT
  have hW0 : s.WarmedH s'.vm := by rw [hvm]; exact State.WarmedH.refl s
  have hat' : ∀ w ∈ vx_at0 own ic cls names, w.before args s' = true := fun w hw => vx_ot_at hW0 hvm.symm (hgood w (List.mem_cons_of_mem _ (List.mem_cons_of_mem _ hw))) (hat w hw)
  have hk' : (Cond.classLink own ik cls).before args s' = true := vx_ot_at hW0 hvm.symm (hgood _ List.mem_cons_self) hk
  have hini' : (Cond.initialized cls).before args s' = true := vx_ot_at hW0 hvm.symm (hgood _ (List.mem_cons_of_mem _ List.mem_cons_self)) hini
  have hU' : vx_Zq Bundle.tN "UNASSIGNED_STACK" Bundle.steD A s' s'.heap := by rw [hhp]; exact vx_Zq.moved hW0.alike (hU.kept hS.2.1)
  have hN' : vx_Zq Bundle.tN "SUPPRESSED_SENTINEL" Bundle.listD A s' s'.heap := by rw [hhp]; exact vx_Zq.moved hW0.alike (hN.kept hS.2.1)
  have h : ∀ w ∈ Bundle.ownAtoms0 own ic cls names, w.before args s' = true := vx_own hat' (vx_isRefq hU'.1) (vx_isRefq hN'.1) hU'.2.word hN'.2.word
  have hown' : s'.vm.findClass own = some m.cls := by rw [hvm]; exact hown
  have hins : (Cond.instantiable cls 6).before args s' = true := h _ (by simp [Bundle.ownAtoms0])
  obtain ⟨vm₁, cX, kX, hfX, hkX, -, -, X₁, st1⟩ := Y.newCold hexec (own := own) (C := cls) (index := ik) (n := 6) hown' hk' hins hini'
    (g := F0 m pc ls rest) rfl (by rw [hb]; exact d0) (Nat.le_refl _) (Nat.le_refl _)
  generalize hT1 : (T.setVm vm₁).pushCell { cls := cX, slots := kX.instanceTypes.map defaultValue, vm := .none } = T1 at X₁ st1
  have hcat : (Value.ref T.heap.size).category = 1 := rfl
  have hcellA : T1.heap[T.heap.size]? = some (freshCell cX kX) := by rw [← hT1]; exact State.heap_pushCell_size _ _
  have d3' : decode c.code (pc + 3) = .ok (.dup, 1) := by rw [hb]; exact d3
  obtain ⟨U, hsteps, hrun, hend, hW, hsame, ce, hce, hO⟩ := X₁.ctorThrow0 hexec htr (own := own) (cls := cls) (names := names) (ic := ic) hown' hcls hnames h (fun x hx => nomatch hx) hfX hkX hcellA (by rw [hhp, hT]; exact Nat.le_refl _)
    (g := { method := m, pc := pc + 4, locals := ls, stack := .ref T.heap.size :: .ref T.heap.size :: rest, locked := none }) rfl hsize rfl rfl (rest := rest) rfl
    (by rw [hb]; exact d4) (by rw [hb]; exact d7) hout hRframes (by simp only [List.map_cons, List.sum_cons, hcat]; omega) hlocks
  obtain ⟨f1, f2⟩ := vx_frame hsame
  rw [hhp] at f1 f2
  have hWs : s.WarmedH U.vm := State.WarmedH.trans hW0 hW
  have hcl : s.vm.findClass cls = some ce.cls := by
    have h9 := hO.cls
    rw [hvm] at h9
    exact h9
  have hall : s.sameButNew ({ U with vm := s.vm } : State) locs mc ms := by
    subst hA
    obtain ⟨e1, e2⟩ := hsame
    rw [State.setFrames_setFrames] at e1
    have h2 : (T.setVm s.vm).sameButNew ({ U with vm := s.vm } : State) [] (0 + 1) (0 + 6) := ⟨e1, e2⟩
    have h3 := X.same.trans h2
    rw [List.append_nil] at h3
    exact h3.mono hc hs
  refine ⟨U, ?_, .threw T.heap.size, hrun, hend, Or.inr ⟨T.heap.size, rfl, cls, ce, locs, hx U hWs.alike f1 (fun q hq => f2 q hq (fun z hz => nomatch hz)), hce, hO.vm, hcl, hWs, hall, hf⟩⟩
  refine st1 _ ?_
  show Steps p.tables e below (T1.setTop { method := m, pc := pc + 3, locals := ls, stack := .ref T.heap.size :: rest, locked := none }) _
  jvm_step X₁.here [X₁.here.top, hexec, d3', Value.category]
  exact hsteps
/-- 'throw new E("text")': new; dup; ldc; invokespecial; athrow -/
theorem vx_throwS {cc : ByteArray} {pc : Nat} (hexec : p.tables.exec = Jvm.exec) (hb : c.code = cc) (hl : l.stackTraces = false) {own cls text : String} {names : List String} {ik is ic mc ms sa : Nat} {A : Nat → Prop}
    (hown : s.vm.findClass own = some m.cls) (hcls : Bundle.fit cls = true) (hnames : ∀ n ∈ names, Bundle.fit n = true)
    (hk : (Cond.classLink own ik cls).before args s = true) (hini : (Cond.initialized cls).before args s = true) (hstr : vk_R own is text sa s) (hat : ∀ w ∈ vx_atS own ic cls names, w.before args s = true)
    (hgood : ∀ w ∈ Cond.classLink own ik cls :: Cond.initialized cls :: vx_atS own ic cls names, vx_ot w = true)
    (hU : vx_Zq Bundle.tN "UNASSIGNED_STACK" Bundle.steD A s s.heap) (hN : vx_Zq Bundle.tN "SUPPRESSED_SENTINEL" Bundle.listD A s s.heap) (hS : va_S A s.heap H locs) (hsize : ls.size = c.maxLocals)
    (d0 : decode cc pc = .ok (.new ik, 3)) (d3 : decode cc (pc + 3) = .ok (.dup, 1)) (d4 : decode cc (pc + 4) = .ok (.ldc is, 2)) (d6 : decode cc (pc + 6) = .ok (.invokespecial ic, 3)) (d9 : decode cc (pc + 9) = .ok (.athrow, 1))
    (hout : ∀ x ∈ c.exceptionTable.toList, covers x (pc + 9) = false)
    (hRframes : names.length + 3 < R.frames) (hRlocals : (rest.map fun v => v.category).sum + (13 * (names.length + 1) + 43) ≤ R.locals) (hRcells : cells + 1 ≤ R.cells) (hRslots : slots + 6 ≤ R.slots) (hlocks : meth.locks = false)
    (hx : ∀ t : State, s.vm.Alike t.vm → H.size ≤ t.heap.size → (∀ q : Nat, q < H.size → t.heap[q]? = H[q]?) → XC cls s t)
    (hf : ∀ z ∈ locs, free z.base) (hc : cells + 1 ≤ mc) (hs : slots + 6 ≤ ms) :
    W p l e R s m args below meth c H locs cells slots (vx_MQ below Qc XC args s mc ms free) (F0 m pc ls rest) := by
  intro T hT X
  have htr : e.platform.stackTraces = false := (show e.platform.stackTraces = l.stackTraces by rw [X.admits.platform]).trans hl
  have Y := vx_rebase X (R' := { frames := R.frames, locals := R.locals, cells := 1, slots := 6 }) (Nat.le_refl _) (Nat.le_refl _) hRcells hRslots
  obtain ⟨s', hA⟩ : ∃ z, z = (T.setVm s.vm).setFrames (.invoking m args :: below) := ⟨_, rfl⟩
  rw [← hA] at Y
  have hvm : s'.vm = s.vm := by rw [hA]; rfl
  have hhp : s'.heap = H := by rw [hA]; exact hT
  have hW0 : s.WarmedH s'.vm := by rw [hvm]; exact State.WarmedH.refl s
  have hat' : ∀ w ∈ vx_atS own ic cls names, w.before args s' = true := fun w hw => vx_ot_at hW0 hvm.symm (hgood w (List.mem_cons_of_mem _ (List.mem_cons_of_mem _ hw))) (hat w hw)
  have hk' : (Cond.classLink own ik cls).before args s' = true := vx_ot_at hW0 hvm.symm (hgood _ List.mem_cons_self) hk
  have hini' : (Cond.initialized cls).before args s' = true := vx_ot_at hW0 hvm.symm (hgood _ (List.mem_cons_of_mem _ List.mem_cons_self)) hini
  have hU' : vx_Zq Bundle.tN "UNASSIGNED_STACK" Bundle.steD A s' s'.heap := by rw [hhp]; exact vx_Zq.moved hW0.alike (hU.kept hS.2.1)
  have hN' : vx_Zq Bundle.tN "SUPPRESSED_SENTINEL" Bundle.listD A s' s'.heap := by rw [hhp]; exact vx_Zq.moved hW0.alike (hN.kept hS.2.1)
  have h : ∀ w ∈ Bundle.ownAtoms own ic cls names, w.before args s' = true := vx_own hat' (vx_isRefq hU'.1) (vx_isRefq hN'.1) hU'.2.word hN'.2.word
  have hown' : s'.vm.findClass own = some m.cls := by rw [hvm]; exact hown
  have hins : (Cond.instantiable cls 6).before args s' = true := h _ (by simp [Bundle.ownAtoms])
  obtain ⟨vm₁, cX, kX, hfX, hkX, -, -, X₁, st1⟩ := Y.newCold hexec (own := own) (C := cls) (index := ik) (n := 6) hown' hk' hins hini'
    (g := F0 m pc ls rest) rfl (by rw [hb]; exact d0) (Nat.le_refl _) (Nat.le_refl _)
  generalize hT1 : (T.setVm vm₁).pushCell { cls := cX, slots := kX.instanceTypes.map defaultValue, vm := .none } = T1 at X₁ st1
  have hcat : (Value.ref T.heap.size).category = 1 := rfl
  have hcellA : T1.heap[T.heap.size]? = some (freshCell cX kX) := by rw [← hT1]; exact State.heap_pushCell_size _ _
  have d3' : decode c.code (pc + 3) = .ok (.dup, 1) := by rw [hb]; exact d3
  have d4' : decode c.code (pc + 4) = .ok (.ldc is, 2) := by rw [hb]; exact d4
  have hstr' : vk_R own is text sa s' := vk_R.warm hW0 hstr
  obtain ⟨U, hsteps, hrun, hend, hW, hsame, ce, hce, hO⟩ := X₁.ctorThrowS hexec htr (own := own) (cls := cls) (names := names) (ic := ic) hown' hcls hnames h (fun x hx => nomatch hx) hfX hkX hcellA (by rw [hhp, hT]; exact Nat.le_refl _) (msg := .ref sa) rfl
    (g := { method := m, pc := pc + 6, locals := ls, stack := .ref sa :: .ref T.heap.size :: .ref T.heap.size :: rest, locked := none }) rfl hsize rfl rfl (rest := rest) rfl
    (by rw [hb]; exact d6) (by rw [hb]; exact d9) hout hRframes (by simp only [List.map_cons, List.sum_cons, hcat]; omega) hlocks
  obtain ⟨f1, f2⟩ := vx_frame hsame
  rw [hhp] at f1 f2
  have hWs : s.WarmedH U.vm := State.WarmedH.trans hW0 hW
  have hcl : s.vm.findClass cls = some ce.cls := by
    have h9 := hO.cls
    rw [hvm] at h9
    exact h9
  have hall : s.sameButNew ({ U with vm := s.vm } : State) locs mc ms := by
    subst hA
    obtain ⟨e1, e2⟩ := hsame
    rw [State.setFrames_setFrames] at e1
    have h2 : (T.setVm s.vm).sameButNew ({ U with vm := s.vm } : State) [] (0 + 1) (0 + 6) := ⟨e1, e2⟩
    have h3 := X.same.trans h2
    rw [List.append_nil] at h3
    exact h3.mono hc hs
  refine ⟨U, ?_, .threw T.heap.size, hrun, hend, Or.inr ⟨T.heap.size, rfl, cls, ce, locs, hx U hWs.alike f1 (fun q hq => f2 q hq (fun z hz => nomatch hz)), hce, hO.vm, hcl, hWs, hall, hf⟩⟩
  refine st1 _ ?_
  show Steps p.tables e below (T1.setTop { method := m, pc := pc + 3, locals := ls, stack := .ref T.heap.size :: rest, locked := none }) _
  jvm_step X₁.here [X₁.here.top, hexec, d3', Value.category]
  exact X₁.ldcString hexec (own := own) (text := text) (index := is) (a := sa) hown' hstr'.1 hstr'.2
    (g := { method := m, pc := pc + 4, locals := ls, stack := .ref T.heap.size :: .ref T.heap.size :: rest, locked := none }) rfl d4' _ hsteps
/-- 'throw new E("text")', the text by a wide index -/
theorem vx_throwSW {cc : ByteArray} {pc : Nat} (hexec : p.tables.exec = Jvm.exec) (hb : c.code = cc) (hl : l.stackTraces = false) {own cls text : String} {names : List String} {ik is ic mc ms sa : Nat} {A : Nat → Prop}
    (hown : s.vm.findClass own = some m.cls) (hcls : Bundle.fit cls = true) (hnames : ∀ n ∈ names, Bundle.fit n = true)
    (hk : (Cond.classLink own ik cls).before args s = true) (hini : (Cond.initialized cls).before args s = true) (hstr : vk_R own is text sa s) (hat : ∀ w ∈ vx_atS own ic cls names, w.before args s = true)
    (hgood : ∀ w ∈ Cond.classLink own ik cls :: Cond.initialized cls :: vx_atS own ic cls names, vx_ot w = true)
    (hU : vx_Zq Bundle.tN "UNASSIGNED_STACK" Bundle.steD A s s.heap) (hN : vx_Zq Bundle.tN "SUPPRESSED_SENTINEL" Bundle.listD A s s.heap) (hS : va_S A s.heap H locs) (hsize : ls.size = c.maxLocals)
    (d0 : decode cc pc = .ok (.new ik, 3)) (d3 : decode cc (pc + 3) = .ok (.dup, 1)) (d4 : decode cc (pc + 4) = .ok (.ldc_w is, 3)) (d7 : decode cc (pc + 7) = .ok (.invokespecial ic, 3)) (d10 : decode cc (pc + 10) = .ok (.athrow, 1))
    (hout : ∀ x ∈ c.exceptionTable.toList, covers x (pc + 10) = false)
    (hRframes : names.length + 3 < R.frames) (hRlocals : (rest.map fun v => v.category).sum + (13 * (names.length + 1) + 43) ≤ R.locals) (hRcells : cells + 1 ≤ R.cells) (hRslots : slots + 6 ≤ R.slots) (hlocks : meth.locks = false)
    (hx : ∀ t : State, s.vm.Alike t.vm → H.size ≤ t.heap.size → (∀ q : Nat, q < H.size → t.heap[q]? = H[q]?) → XC cls s t)
    (hf : ∀ z ∈ locs, free z.base) (hc : cells + 1 ≤ mc) (hs : slots + 6 ≤ ms) :
    W p l e R s m args below meth c H locs cells slots (vx_MQ below Qc XC args s mc ms free) (F0 m pc ls rest) := by
  intro T hT X
  have htr : e.platform.stackTraces = false := (show e.platform.stackTraces = l.stackTraces by rw [X.admits.platform]).trans hl
  have Y := vx_rebase X (R' := { frames := R.frames, locals := R.locals, cells := 1, slots := 6 }) (Nat.le_refl _) (Nat.le_refl _) hRcells hRslots
  obtain ⟨s', hA⟩ : ∃ z, z = (T.setVm s.vm).setFrames (.invoking m args :: below) := ⟨_, rfl⟩
  rw [← hA] at Y
  have hvm : s'.vm = s.vm := by rw [hA]; rfl
  have hhp : s'.heap = H := by rw [hA]; exact hT
  have hW0 : s.WarmedH s'.vm := by rw [hvm]; exact State.WarmedH.refl s
  have hat' : ∀ w ∈ vx_atS own ic cls names, w.before args s' = true := fun w hw => vx_ot_at hW0 hvm.symm (hgood w (List.mem_cons_of_mem _ (List.mem_cons_of_mem _ hw))) (hat w hw)
  have hk' : (Cond.classLink own ik cls).before args s' = true := vx_ot_at hW0 hvm.symm (hgood _ List.mem_cons_self) hk
  have hini' : (Cond.initialized cls).before args s' = true := vx_ot_at hW0 hvm.symm (hgood _ (List.mem_cons_of_mem _ List.mem_cons_self)) hini
  have hU' : vx_Zq Bundle.tN "UNASSIGNED_STACK" Bundle.steD A s' s'.heap := by rw [hhp]; exact vx_Zq.moved hW0.alike (hU.kept hS.2.1)
  have hN' : vx_Zq Bundle.tN "SUPPRESSED_SENTINEL" Bundle.listD A s' s'.heap := by rw [hhp]; exact vx_Zq.moved hW0.alike (hN.kept hS.2.1)
  have h : ∀ w ∈ Bundle.ownAtoms own ic cls names, w.before args s' = true := vx_own hat' (vx_isRefq hU'.1) (vx_isRefq hN'.1) hU'.2.word hN'.2.word
  have hown' : s'.vm.findClass own = some m.cls := by rw [hvm]; exact hown
  have hins : (Cond.instantiable cls 6).before args s' = true := h _ (by simp [Bundle.ownAtoms])
  obtain ⟨vm₁, cX, kX, hfX, hkX, -, -, X₁, st1⟩ := Y.newCold hexec (own := own) (C := cls) (index := ik) (n := 6) hown' hk' hins hini'
    (g := F0 m pc ls rest) rfl (by rw [hb]; exact d0) (Nat.le_refl _) (Nat.le_refl _)
  generalize hT1 : (T.setVm vm₁).pushCell { cls := cX, slots := kX.instanceTypes.map defaultValue, vm := .none } = T1 at X₁ st1
  have hcat : (Value.ref T.heap.size).category = 1 := rfl
  have hcellA : T1.heap[T.heap.size]? = some (freshCell cX kX) := by rw [← hT1]; exact State.heap_pushCell_size _ _
  have d3' : decode c.code (pc + 3) = .ok (.dup, 1) := by rw [hb]; exact d3
  have d4' : decode c.code (pc + 4) = .ok (.ldc_w is, 3) := by rw [hb]; exact d4
  have hstr' : vk_R own is text sa s' := vk_R.warm hW0 hstr
  obtain ⟨U, hsteps, hrun, hend, hW, hsame, ce, hce, hO⟩ := X₁.ctorThrowS hexec htr (own := own) (cls := cls) (names := names) (ic := ic) hown' hcls hnames h (fun x hx => nomatch hx) hfX hkX hcellA (by rw [hhp, hT]; exact Nat.le_refl _) (msg := .ref sa) rfl
    (g := { method := m, pc := pc + 7, locals := ls, stack := .ref sa :: .ref T.heap.size :: .ref T.heap.size :: rest, locked := none }) rfl hsize rfl rfl (rest := rest) rfl
    (by rw [hb]; exact d7) (by rw [hb]; exact d10) hout hRframes (by simp only [List.map_cons, List.sum_cons, hcat]; omega) hlocks
  obtain ⟨f1, f2⟩ := vx_frame hsame
  rw [hhp] at f1 f2
  have hWs : s.WarmedH U.vm := State.WarmedH.trans hW0 hW
  have hcl : s.vm.findClass cls = some ce.cls := by
    have h9 := hO.cls
    rw [hvm] at h9
    exact h9
  have hall : s.sameButNew ({ U with vm := s.vm } : State) locs mc ms := by
    subst hA
    obtain ⟨e1, e2⟩ := hsame
    rw [State.setFrames_setFrames] at e1
    have h2 : (T.setVm s.vm).sameButNew ({ U with vm := s.vm } : State) [] (0 + 1) (0 + 6) := ⟨e1, e2⟩
    have h3 := X.same.trans h2
    rw [List.append_nil] at h3
    exact h3.mono hc hs
  refine ⟨U, ?_, .threw T.heap.size, hrun, hend, Or.inr ⟨T.heap.size, rfl, cls, ce, locs, hx U hWs.alike f1 (fun q hq => f2 q hq (fun z hz => nomatch hz)), hce, hO.vm, hcl, hWs, hall, hf⟩⟩
  refine st1 _ ?_
  show Steps p.tables e below (T1.setTop { method := m, pc := pc + 3, locals := ls, stack := .ref T.heap.size :: rest, locked := none }) _
  jvm_step X₁.here [X₁.here.top, hexec, d3', Value.category]
  exact X₁.ldcStringW hexec (own := own) (text := text) (index := is) (a := sa) hown' hstr'.1 hstr'.2
    (g := { method := m, pc := pc + 4, locals := ls, stack := .ref T.heap.size :: .ref T.heap.size :: rest, locked := none }) rfl d4' _ hsteps
end Ends
section Bodies
variable {l : Launch}
theorem vx_ofW {y : MethodName} {ws ws' : List Cond} {rm : Room} {Pc : Array Value → State → Prop} {Qc : Array Value → State → Outcome → State → Prop} {XC : String → State → State → Prop} {mc ms : Nat} {free : Addr → Prop} {cc : ByteArray} {maxL : Nat} {ret : Option FieldType}
    (hy : plainName y.cls = true) (hw : ws = Cond.code y cc maxL ret :: ws')
    (body : ∀ p e s m args below meth c s₁, BodyLoose p l y (headSpec ws rm) cc maxL ret e s m args below meth c s₁ → c.maxLocals = maxL → (∀ x ∈ c.exceptionTable.toList, False) → Pc args s →
      W p l e (headSpec ws rm).room s m args below meth c s.heap [] 0 0 (vx_MQ below Qc XC args s mc ms free) (entryFrame m args maxL)) : vx_Met l y ws rm Pc Qc XC mc ms free := by
  refine MetFree.of_bodyS (code := cc) (maxLocals := maxL) (ret := ret) hy ?_ ?_
  · intro args s m h hn
    obtain ⟨meth, c, h1, h2, h3, h4, h5, h6, -, -⟩ := Cond.code_spec hn (atoms_spec (ws := ws) h _ (by rw [hw]; exact List.mem_cons_self))
    exact ⟨meth, c, h1, h2, h3, h4, h5, h6⟩
  · intro p e s m args below meth c s₁ B hml hP _
    have hh0 : s₁.heap = s.heap := by rw [B.state]; rfl
    have ht : ∀ x ∈ c.exceptionTable.toList, False := by
      obtain ⟨meth9, c9, h1, h2, -, -, -, -, h7, -⟩ := Cond.code_spec B.named (atoms_spec (ws := ws) B.pre _ (by rw [hw]; exact List.mem_cons_self))
      cases Option.some.inj (h1.symm.trans B.method)
      cases Option.some.inj (h2.symm.trans (Stand.of_body B).code)
      intro x hx
      rw [Array.isEmpty_iff.mp h7] at hx
      cases hx
    obtain ⟨t, a1, o, b1, b2, b3⟩ := body p e s m args below meth c s₁ B hml ht hP s₁ hh0 (Stand.of_body B)
    exact ⟨t, o, a1, b1, b2, b3⟩
/-- the table of a body with handlers -/
theorem vx_table {p : Program} {x y : MethodName} {S : Spec} {cc bytes : ByteArray} {maxL maxL' : Nat} {ret ret' : Option FieldType} {e : Env} {s s₁ : State} {m : MethodId} {args : Array Value} {below : List Frame} {meth : Method} {c : Code} {hh : List (Nat × Nat × Nat × Nat)}
    (B : BodyLoose p l y S cc maxL ret e s m args below meth c s₁) (h : (Cond.codeWith y bytes maxL' ret' hh).before args s = true) : c.exceptionTable.toList = tableOf hh := by
  obtain ⟨m9, meth9, c9, hn9, h1, h2, -, -, h6, -⟩ := Cond.codeWith_spec h
  cases Option.some.inj (hn9.symm.trans B.named)
  cases Option.some.inj (h1.symm.trans B.method)
  cases Option.some.inj (h2.symm.trans (Stand.of_body B).code)
  rw [← h6, table_eq]
end Bodies
end VXA
/-! ===== END ===== -/
/-! ===== BEGIN a static call of a method with an exception table ===== -/
section VXS
variable {p : Program} {l : Launch} {e : Env} {R : Room} {s : State} {m : MethodId} {args : Array Value} {below : List Frame} {meth : Method} {c : Code} {T : State} {H : Heap} {locs : List Loc} {cells slots : Nat}
abbrev vx_CSW (R : Room) (s : State) (args : Array Value) (own : String) (index : Nat) (y : MethodName) (bytes : ByteArray) (maxL : Nat) (ret : Option FieldType) (hh : List (Nat × Nat × Nat × Nat)) (ws : List Cond) (rm : Room) (mc ms n : Nat) : Prop :=
  (rm.cells = mc ∧ rm.slots = ms ∧ rm.frames + 1 ≤ R.frames ∧ 8 + (maxL + 11) + rm.locals ≤ R.locals ∧ (∀ w ∈ ws, ∀ (a' : Array Value) (U : State), s.WarmedH U.vm → w.before a' U = true) ∧ Cond.codeWith y bytes maxL ret hh ∈ ws) ∧
  (Cond.codeWith y bytes maxL ret hh).before args s = true ∧ (Cond.initialized y.cls).before args s = true ∧ (y.cls ≠ "java/lang/invoke/MethodHandle" ∧ y.cls ≠ "java/lang/invoke/VarHandle") ∧
  (∀ sig, parseMethodDescriptor y.desc = some sig → n = sig.parameters.length) ∧ (Cond.methodLink own index y).before args s = true ∧ (Cond.static y).before args s = true
theorem vx_cwSW {own : String} {index maxL mc ms : Nat} {y : MethodName} {bytes : ByteArray} {ret : Option FieldType} {hh : List (Nat × Nat × Nat × Nat)} {Ts ws ws' : List Cond} {rm : Room} (n : Nat) (ht : ∀ w ∈ Ts, w.before args s = true) (hT : GoodIn Ts (va_wsS own index y ws)) (hw : ws = Cond.codeWith y bytes maxL ret hh :: ws') (hrc : rm.cells = mc) (hrs : rm.slots = ms)
    (hd : y.cls ≠ "java/lang/invoke/MethodHandle" ∧ y.cls ≠ "java/lang/invoke/VarHandle" ∧ (parseMethodDescriptor y.desc).map (fun d => d.parameters.length) = some n) (hR : rm.frames + 1 ≤ R.frames ∧ 8 + (maxL + 11) + rm.locals ≤ R.locals) :
    vx_CSW R s args own index y bytes maxL ret hh ws rm mc ms n := by
  have ok : ∀ w ∈ va_wsS own index y ws, w.before args s = true := fun w h => ht w (hT w h).1
  have hG : GoodIn Ts ws := fun w h => hT w (by unfold va_wsS; exact List.mem_append_right _ h)
  have hc : Cond.codeWith y bytes maxL ret hh ∈ ws := by rw [hw]; exact List.mem_cons_self
  refine ⟨⟨hrc, hrs, hR.1, hR.2, pay_in ht hG, hc⟩, ht _ (hG _ hc).1, ok _ (by simp [va_wsS]), ⟨hd.1, hd.2.1⟩, fun sig h => ?_, ok _ (by simp [va_wsS]), ok _ (by simp [va_wsS])⟩
  have h2 := hd.2.2
  rw [h] at h2
  exact (Option.some.inj h2).symm
theorem vx_callSW (X : Stand p l e R s m args below meth c T locs cells slots) (hexec : p.tables.exec = Jvm.exec) {own : String} {index : Nat} {y : MethodName} {bytes : ByteArray} {maxL : Nat} {ret : Option FieldType} {hh : List (Nat × Nat × Nat × Nat)}
    (hown : s.vm.findClass own = some m.cls) (hlink : (Cond.methodLink own index y).before args s = true) (hstat : (Cond.static y).before args s = true) (hinit : (Cond.initialized y.cls).before args s = true)
    (hcode : (Cond.codeWith y bytes maxL ret hh).before args s = true) (hy : y.cls ≠ "java/lang/invoke/MethodHandle" ∧ y.cls ≠ "java/lang/invoke/VarHandle")
    {W9 : Nat} {Pre : Pt → Array Value → Prop} {Post : Pt → Array Value → Option Value → Pt → Prop} (hK : Back l R p e below s args y 3 W9 Pre Post)
    {g : JFrame} (hg : g.method = m) (hsize : g.locals.size = c.maxLocals) {argsL rest : List Value} (hlen : ∀ sig, parseMethodDescriptor y.desc = some sig → argsL.length = sig.parameters.length)
    (hstack : g.stack = argsL.reverse ++ rest) (hW : 2 * g.monitorRoom + (rest.map fun v => v.category).sum ≤ W9) (hdg : decode c.code g.pc = .ok (.invokestatic index, 3))
    (hpre : ∀ vm₁, s.WarmedH vm₁ → Pre ⟨T.setVm vm₁, locs, cells, slots⟩ argsL.toArray) :
    ∃ (v : Option Value) (vm₁ : Vm) (B : Pt), s.WarmedH vm₁ ∧ Stand p l e R s m args below meth c B.U B.locs B.cells B.slots ∧ Post ⟨T.setVm vm₁, locs, cells, slots⟩ argsL.toArray v B ∧
      ∀ target, Steps p.tables e below (B.U.setTop { g with pc := g.pc + 3, stack := v.toList ++ rest }) target → Steps p.tables e below (T.setTop g) target := by
  obtain ⟨mk, methM, cM, hnamed, hmethM, -, -, -, -, -, -, hsigM⟩ := Cond.codeWith_spec hcode
  have hstatic : methM.isStatic = true := Cond.static_spec hnamed hmethM hstat
  obtain ⟨kP, hkP, -⟩ := className_of_methodNamed hnamed
  have hinitP : kP.init = .initialized := Cond.initialized_spec (findClass_of_methodNamed hnamed) hkP hinit
  obtain ⟨vm₁, X₁, hstep₁⟩ := X.invokestatic hexec hown hlink hnamed hmethM hstatic hkP hinitP hy (g := g) hg (argsL := argsL) (rest := rest) (hlen _ hsigM) hstack hdg
  obtain ⟨v, B, X', hpost, hsteps⟩ := hK m meth c ⟨T.setVm vm₁, locs, cells, slots⟩ { g with stack := rest } (.invokestatic index) mk argsL.toArray X₁ hg hsize hdg hW (X₁.named hnamed) (hpre vm₁ X₁.warmed)
  exact ⟨v, vm₁, B, X₁.warmed, X', hpost, fun target h => hstep₁ _ fun acts => by rw [doInvoke_state]; exact hsteps.trans h⟩
theorem vx_runSW {y : MethodName} {bytes cc : ByteArray} {maxL nL mc ms n index : Nat} {ret : Option FieldType} {hh : List (Nat × Nat × Nat × Nat)} {ws : List Cond} {rm : Room} {Pc : Array Value → State → Prop} {Qc : Array Value → State → Outcome → State → Prop} {free : Addr → Prop} {Ts : List Cond} {own : String} {As rest : List Value} {g : JFrame}
    (S : CallFix p m c cc nL s args Ts own) (hM : Met l y ws rm Pc Qc mc ms free) (cw : vx_CSW R s args own index y bytes maxL ret hh ws rm mc ms n) (hp : PreS s H Pc As)
    (hg : g.method = m) (hn : As.length = n) (hsize : g.locals.size = nL) (hstack : g.stack = As.reverse ++ rest) (hW : 2 * g.monitorRoom + (rest.map fun v => v.category).sum ≤ 8) (hdg : decode cc g.pc = .ok (.invokestatic index, 3)) (hf : cells + mc ≤ R.cells ∧ slots + ms ≤ R.slots) :
    va_Run p l e R s m args below meth c H locs cells slots mc ms g rest (Qc As.toArray) (free) := by
  obtain ⟨⟨hrc, hrs, hfr, hlo, hws, hcw⟩, hcode, hini, hy, hlen, hl, hstt⟩ := cw
  have hK : Back l R p e below s args y 3 8 (PreOf R mc ms Pc) (PostOf Qc mc ms free) := va_backW (hh := hh) (bytes := bytes) (maxL := maxL) (ret := ret) hM hp.1 hrc hrs hfr hlo hws hcw (fun a' U hW => word_at hW (Or.inl (by first | rfl | simp [Cond.onTables, Cond.keeps, Cond.steady])) hini)
  obtain ⟨hx, hb, hml, ho, -⟩ := S
  intro T hT X
  obtain ⟨v, vm₁, ⟨U', l2, c2, s2⟩, hW₁, X', ⟨g', mk, t, L, e1, e2, hq, h1, hL, h2, h3⟩, st⟩ := vx_callSW X hx (hh := hh) (bytes := bytes) (maxL := maxL) (ret := ret) ho hl hstt hini hcode hy hK hg (hsize.trans hml.symm) (argsL := As) (rest := rest) (fun sig h => hn.trans (hlen sig h)) hstack hW (by rw [hb]; exact hdg)
    (fun vm₁ hW₁ => ⟨hf.1, hf.2, hp.2 (T.setVm vm₁) hT hW₁⟩)
  dsimp only [Pt.U, Pt.locs, Pt.cells, Pt.slots] at X' e1 e2 h1 h2 h3 st
  subst h1; subst h2; subst h3
  exact ⟨v, (T.setVm vm₁).calling g' mk As.toArray, t, U', L, hT, X', hL, e1, e2, hq, st⟩
/-- a thing of a world lies in the heap -/
theorem vx_lt {D : va_G} {cl : List vw_C} {ws : va_W} {H1 : Heap} (h : va_P D cl ws H1) {k : Nat} {q : Nat × va_E} (hk : ws[k]? = some q) : q.1 < H1.size := (h k q hk).lt
end VXS
/-! ===== END ===== -/
/-! ===== BEGIN methods with a table of their own: called by a name, returning or throwing ===== -/
section VXH
/-! vx_backW, vx_callVX, vx_callSX, vx_callVW, vx_runVW, vx_runVX, vx_runSX, vx_ofWH follow the same proofs as their sisters above (Free/Laws.lean, Shelf42/LK1.lean); vx_outP calls Shelf42/NT130.lean (outThrough). -/
section
variable {l : Launch} {R : Room} {p : Program} {e : Env} {below : List Frame} {s : State} {sargs : Array Value} {y : MethodName} {len W9 : Nat}
theorem vx_backW {ws : List Cond} {rm : Room} {Pc : Array Value → State → Prop} {Qc : Array Value → State → Outcome → State → Prop} {XC : String → State → State → Prop} {mc ms : Nat} {free : Addr → Prop} {bytes : ByteArray} {maxL : Nat} {ret : Option FieldType} {hh : List (Nat × Nat × Nat × Nat)}
    (hM : vx_Met l y ws rm Pc Qc XC mc ms free) (hblind : FrameBlind Pc) (hrc : rm.cells = mc) (hrs : rm.slots = ms)
    (hframes : rm.frames + 1 ≤ R.frames) (hlocals : W9 + (maxL + 11) + rm.locals ≤ R.locals)
    (hws : ∀ w ∈ ws, ∀ a' U, s.WarmedH U.vm → w.before a' U = true) (hcode : Cond.codeWith y bytes maxL ret hh ∈ ws) (hinit : ∀ a' U, s.WarmedH U.vm → (Cond.initialized y.cls).before a' U = true) :
    vx_Back l R p e below s sargs y len W9 (PreOf R mc ms Pc) (PostOf Qc mc ms free) (vx_Post XC mc ms free) := by
  intro m meth c A g ig mk a X hg hsize hdg hW hn hp
  have h1 : (headSpec ws rm).pre.before a A.U = true := atoms_intro fun w hw => hws w hw _ _ X.warmed
  have h2 : (Cond.codeWith y bytes maxL ret hh).before a A.U = true := hws _ hcode _ _ X.warmed
  have h3 : (Cond.initialized y.cls).before a A.U = true := hinit _ _ X.warmed
  have h4 : A.cells + (headSpec ws rm).room.cells ≤ R.cells := by rw [show (headSpec ws rm).room.cells = mc from hrc]; exact hp.1
  have h5 : A.slots + (headSpec ws rm).room.slots ≤ R.slots := by rw [show (headSpec ws rm).room.slots = ms from hrs]; exact hp.2.1
  have hPc : Pc a (A.U.calling g mk a) := hblind _ _ _ _ hp.2.2
  obtain ⟨U, Ls, c0, s0⟩ := A
  dsimp only [Pt.U, Pt.locs, Pt.cells, Pt.slots] at h1 h2 h3 h4 h5 X hn hPc ⊢
  obtain ⟨m9, methY, cY, hn9, hmY, hcY, -, hlY, -⟩ := Cond.codeWith_spec h2
  cases Option.some.inj (hn9.symm.trans hn)
  obtain ⟨kY, hkY, -⟩ := className_of_methodNamed hn
  have hinitY : kY.init = .initialized := Cond.initialized_spec (findClass_of_methodNamed hn) hkY h3
  have h : At U g.method c below := by rw [hg]; exact X.here
  have hlocals9 : W9 + (maxL + 11) + (headSpec ws rm).room.locals ≤ R.locals := hlocals
  have happ : (headSpec ws rm).appliesLoose y e.platform (U.calling g mk a) = true :=
    Spec.appliesLoose_calling (g := g) h hdg hn hkY hinitY
      (X.room_calling (g := g) (R' := (headSpec ws rm).room) hsize hmY hcY hframes (by rw [hlY]; omega) h4 h5) h1
  obtain ⟨mid, hmid⟩ := h.above
  have hfr : (U.setTop g).frames = (.java g :: mid) ++ below := by rw [State.frames_setTop' g h.top, hmid]; rfl
  obtain ⟨o, s₂, hsteps, -, hend, hq⟩ := Steps.callFree hM p X.admits X.cas X.clock (acts := []) hfr happ hPc trivial
  have hq' : vx_Q Qc XC mc ms free a (U.calling g mk a) o s₂ := hq
  rw [State.frames_setTop' g h.top] at hend
  obtain ⟨g₀, hg0⟩ := Option.isSome_iff_exists.mp h.top
  obtain ⟨r, hr⟩ := State.topJava?_eq_some.mp hg0
  have hr' : (({ U with heap := s₂.heap, slotsUsed := s₂.slotsUsed } : State).setVm s₂.vm).frames = .java g₀ :: r := hr
  rcases hq' with ⟨hqc, L, hfe, hL⟩ | ⟨q, rfl, E, ce, L, hx, hce, hcv, hcl, hW₂, hsm, hL⟩
  · obtain ⟨⟨v, rfl⟩, hW₂, e2, q2, q3, q4, q5, q6⟩ := id hfe
    have e3 : s₂ = ({ (U.calling g mk a).setFrames s₂.frames with heap := s₂.heap, slotsUsed := s₂.slotsUsed } : State).setVm s₂.vm := by
      have : s₂ = ({ s₂ with vm := (U.calling g mk a).vm } : State).setVm s₂.vm := rfl
      rw [e2] at this
      exact this
    obtain ⟨c₂, i₂, len₂, hc₂, hd₂, hf₂⟩ := hend
    have hW' : U.WarmedH s₂.vm := hW₂
    have hcc : c₂ = c := by
      have h1 : s₂.code? g.method = U.code? g.method := by
        rw [State.code?_eq, State.code?_eq, hW'.alike.method?]
      exact Option.some.inj (hc₂.symm.trans (h1.trans h.code))
    subst hcc
    have hlen : len₂ = len := by rw [hdg] at hd₂; cases hd₂; rfl
    subst hlen
    have hs₂ : s₂ = (({ U with heap := s₂.heap, slotsUsed := s₂.slotsUsed } : State).setVm s₂.vm).setTop { g with pc := g.pc + len₂, stack := v.toList ++ g.stack } := by
      refine e3.trans ?_
      rw [hf₂, State.calling_eq h.top, State.setFrames_setFrames, State.setTop_of_frames _ hr', hr]
      rfl
    have hsame : U.sameButNew ({ U with heap := s₂.heap, slotsUsed := s₂.slotsUsed } : State) L mc ms := by
      refine ⟨?_, q2, q3, q4, q5, q6⟩
      obtain ⟨t, ht, -⟩ := State.frames_cons hr
      show ({ U with heap := s₂.heap, slotsUsed := s₂.slotsUsed } : State) = { U.setFrames U.frames with heap := s₂.heap, slotsUsed := s₂.slotsUsed }
      rw [State.setFrames_self ht]
    subst hg
    refine Or.inl ⟨v, ⟨(({ U with heap := s₂.heap, slotsUsed := s₂.slotsUsed } : State).setVm s₂.vm), Ls ++ L, c0 + mc, s0 + ms⟩,
      ⟨X.admits, X.cas, X.clock, X.frames, X.room, X.hears, X.method, X.code, (X.here.setHeapUsed s₂.heap s₂.slotsUsed).setVm hW'.alike, X.tail, State.WarmedH.trans X.warmed hW', X.limits, X.bytes, X.same.trans (hsame.setVm s.vm)⟩,
      ⟨g, mk, s₂, L, rfl, rfl, hqc, rfl, hL, rfl, rfl⟩, ?_⟩
    show Steps p.tables e below _ ((({ U with heap := s₂.heap, slotsUsed := s₂.slotsUsed } : State).setVm s₂.vm).setTop { g with pc := g.pc + len₂, stack := v.toList ++ g.stack })
    rw [← hs₂]
    exact hsteps
  · obtain ⟨e2, q2, q3, q4, q5, q6⟩ := id hsm
    have e3 : s₂ = ({ (U.calling g mk a).setFrames s₂.frames with heap := s₂.heap, slotsUsed := s₂.slotsUsed } : State).setVm s₂.vm := by
      have : s₂ = ({ s₂ with vm := (U.calling g mk a).vm } : State).setVm s₂.vm := rfl
      rw [e2] at this
      exact this
    have hf₂ : s₂.frames = .throwing q :: .java g :: U.frames.tail := hend
    have hW' : U.WarmedH s₂.vm := hW₂
    have hs₂ : s₂ = ((({ U with heap := s₂.heap, slotsUsed := s₂.slotsUsed } : State).setVm s₂.vm).setTop g).pushFrame (.throwing q) := by
      refine e3.trans ?_
      rw [hf₂, State.calling_eq h.top, State.setFrames_setFrames, State.pushFrame, State.frames_setTop _ hr', State.setTop_of_frames _ hr', State.setFrames_setFrames, hr]
      rfl
    have hsame : U.sameButNew ({ U with heap := s₂.heap, slotsUsed := s₂.slotsUsed } : State) L mc ms := by
      refine ⟨?_, q2, q3, q4, q5, q6⟩
      obtain ⟨t, ht, -⟩ := State.frames_cons hr
      show ({ U with heap := s₂.heap, slotsUsed := s₂.slotsUsed } : State) = { U.setFrames U.frames with heap := s₂.heap, slotsUsed := s₂.slotsUsed }
      rw [State.setFrames_self ht]
    subst hg
    refine Or.inr ⟨q, ⟨(({ U with heap := s₂.heap, slotsUsed := s₂.slotsUsed } : State).setVm s₂.vm), Ls ++ L, c0 + mc, s0 + ms⟩,
      ⟨X.admits, X.cas, X.clock, X.frames, X.room, X.hears, X.method, X.code, (X.here.setHeapUsed s₂.heap s₂.slotsUsed).setVm hW'.alike, X.tail, State.WarmedH.trans X.warmed hW', X.limits, X.bytes, X.same.trans (hsame.setVm s.vm)⟩,
      ⟨g, mk, s₂, L, E, ce, rfl, rfl, hx, hce, hcv, hcl, rfl, hL, rfl, rfl⟩, ?_⟩
    show Steps p.tables e below _ (((({ U with heap := s₂.heap, slotsUsed := s₂.slotsUsed } : State).setVm s₂.vm).setTop g).pushFrame (.throwing q))
    rw [← hs₂]
    exact hsteps
end
variable {p : Program} {l : Launch} {e : Env} {R : Room} {s : State} {m : MethodId} {args : Array Value} {below : List Frame} {meth : Method} {c : Code} {T : State} {H : Heap} {locs : List Loc} {cells slots : Nat}
theorem vx_callVX (X : Stand p l e R s m args below meth c T locs cells slots) (hexec : p.tables.exec = Jvm.exec) {own C : String} {index : Nat} {y : MethodName} {bytes : ByteArray} {maxL : Nat} {ret : Option FieldType} {hh : List (Nat × Nat × Nat × Nat)}
    (hown : s.vm.findClass own = some m.cls) (hlink : (Cond.methodLink own index y).before args s = true) (hinst : (Cond.instanceMethod y).before args s = true) (hsel : (Cond.selects C y y).before args s = true)
    (hcode : (Cond.codeWith y bytes maxL ret hh).before args s = true) (hy : y.cls ≠ "java/lang/invoke/MethodHandle" ∧ y.cls ≠ "java/lang/invoke/VarHandle")
    {W9 : Nat} {Pre : Pt → Array Value → Prop} {Post : Pt → Array Value → Option Value → Pt → Prop} {PostX : Pt → Array Value → Addr → Pt → Prop} (hK : vx_Back l R p e below s args y 3 W9 Pre Post PostX)
    {b : Addr} {cellB : Cell} (hcell : T.heap[b]? = some cellB) (hobj : cellB.vm.isStatics = false) (hcls : s.vm.findClass C = some cellB.cls)
    {g : JFrame} (hg : g.method = m) (hsize : g.locals.size = c.maxLocals) {argsL rest : List Value} (hlen : ∀ sig, parseMethodDescriptor y.desc = some sig → argsL.length = sig.parameters.length)
    (hstack : g.stack = argsL.reverse ++ .ref b :: rest) (hW : 2 * g.monitorRoom + (rest.map fun v => v.category).sum ≤ W9) (hdg : decode c.code g.pc = .ok (.invokevirtual index, 3))
    (hpre : ∀ vm₁, s.WarmedH vm₁ → Pre ⟨T.setVm vm₁, locs, cells, slots⟩ (Value.ref b :: argsL).toArray) :
    (∃ (v : Option Value) (vm₁ : Vm) (B : Pt), s.WarmedH vm₁ ∧ Stand p l e R s m args below meth c B.U B.locs B.cells B.slots ∧ Post ⟨T.setVm vm₁, locs, cells, slots⟩ (Value.ref b :: argsL).toArray v B ∧
      ∀ target, Steps p.tables e below (B.U.setTop { g with pc := g.pc + 3, stack := v.toList ++ rest }) target → Steps p.tables e below (T.setTop g) target) ∨
    (∃ (q : Addr) (vm₁ : Vm) (B : Pt), s.WarmedH vm₁ ∧ Stand p l e R s m args below meth c B.U B.locs B.cells B.slots ∧ PostX ⟨T.setVm vm₁, locs, cells, slots⟩ (Value.ref b :: argsL).toArray q B ∧
      Steps p.tables e below (T.setTop g) ((B.U.setTop { g with stack := rest }).pushFrame (.throwing q))) := by
  obtain ⟨mk, methM, hnamed, hmethM, hstM, habM⟩ := Cond.instanceMethod_spec hinst
  obtain ⟨m8, methM', cM, hn8, hmethM', -, -, -, -, -, -, hsigM⟩ := Cond.codeWith_spec hcode
  cases Option.some.inj (hn8.symm.trans hnamed)
  cases hmethM.symm.trans hmethM'
  obtain ⟨c2, r2, m2, q1, q2, q3, q4, kP, hkP, hkPi⟩ := Cond.selects_spec hsel
  cases hcls.symm.trans q1
  cases (State.methodFound?_of_named hnamed hy).symm.trans q2
  cases hnamed.symm.trans q3
  have hselP : selectMethod e.platform s.vm cellB.cls mk = .method mk := by rw [Launch.admits_selectMethod X.admits]; exact q4
  obtain ⟨vm₁, X₁, hstep₁⟩ := X.invokevirtual hexec hown hlink hnamed hmethM hstM hkP hkPi hy (a := b) (cell := cellB) hcell
    (fun z h => by rw [h] at hobj; cases hobj) hselP hmethM habM hkP hkPi (g := g) hg (argsL := argsL) (rest := rest) (hlen _ hsigM) hstack hdg
  rcases hK m meth c ⟨T.setVm vm₁, locs, cells, slots⟩ { g with stack := rest } (.invokevirtual index) mk (Value.ref b :: argsL).toArray X₁ hg hsize hdg hW (X₁.named hnamed) (hpre vm₁ X₁.warmed) with ⟨v, B, X', hpost, hsteps⟩ | ⟨q, B, X', hpost, hsteps⟩
  · exact Or.inl ⟨v, vm₁, B, X₁.warmed, X', hpost, fun target h => hstep₁ _ fun acts => by rw [doInvoke_state]; exact hsteps.trans h⟩
  · exact Or.inr ⟨q, vm₁, B, X₁.warmed, X', hpost, hstep₁ _ fun acts => by rw [doInvoke_state]; exact hsteps⟩
theorem vx_callSX (X : Stand p l e R s m args below meth c T locs cells slots) (hexec : p.tables.exec = Jvm.exec) {own : String} {index : Nat} {y : MethodName} {bytes : ByteArray} {maxL : Nat} {ret : Option FieldType} {hh : List (Nat × Nat × Nat × Nat)}
    (hown : s.vm.findClass own = some m.cls) (hlink : (Cond.methodLink own index y).before args s = true) (hstat : (Cond.static y).before args s = true) (hinit : (Cond.initialized y.cls).before args s = true)
    (hcode : (Cond.codeWith y bytes maxL ret hh).before args s = true) (hy : y.cls ≠ "java/lang/invoke/MethodHandle" ∧ y.cls ≠ "java/lang/invoke/VarHandle")
    {W9 : Nat} {Pre : Pt → Array Value → Prop} {Post : Pt → Array Value → Option Value → Pt → Prop} {PostX : Pt → Array Value → Addr → Pt → Prop} (hK : vx_Back l R p e below s args y 3 W9 Pre Post PostX)
    {g : JFrame} (hg : g.method = m) (hsize : g.locals.size = c.maxLocals) {argsL rest : List Value} (hlen : ∀ sig, parseMethodDescriptor y.desc = some sig → argsL.length = sig.parameters.length)
    (hstack : g.stack = argsL.reverse ++ rest) (hW : 2 * g.monitorRoom + (rest.map fun v => v.category).sum ≤ W9) (hdg : decode c.code g.pc = .ok (.invokestatic index, 3))
    (hpre : ∀ vm₁, s.WarmedH vm₁ → Pre ⟨T.setVm vm₁, locs, cells, slots⟩ argsL.toArray) :
    (∃ (v : Option Value) (vm₁ : Vm) (B : Pt), s.WarmedH vm₁ ∧ Stand p l e R s m args below meth c B.U B.locs B.cells B.slots ∧ Post ⟨T.setVm vm₁, locs, cells, slots⟩ argsL.toArray v B ∧
      ∀ target, Steps p.tables e below (B.U.setTop { g with pc := g.pc + 3, stack := v.toList ++ rest }) target → Steps p.tables e below (T.setTop g) target) ∨
    (∃ (q : Addr) (vm₁ : Vm) (B : Pt), s.WarmedH vm₁ ∧ Stand p l e R s m args below meth c B.U B.locs B.cells B.slots ∧ PostX ⟨T.setVm vm₁, locs, cells, slots⟩ argsL.toArray q B ∧
      Steps p.tables e below (T.setTop g) ((B.U.setTop { g with stack := rest }).pushFrame (.throwing q))) := by
  obtain ⟨mk, methM, cM, hnamed, hmethM, -, -, -, -, -, -, hsigM⟩ := Cond.codeWith_spec hcode
  have hstatic : methM.isStatic = true := Cond.static_spec hnamed hmethM hstat
  obtain ⟨kP, hkP, -⟩ := className_of_methodNamed hnamed
  have hinitP : kP.init = .initialized := Cond.initialized_spec (findClass_of_methodNamed hnamed) hkP hinit
  obtain ⟨vm₁, X₁, hstep₁⟩ := X.invokestatic hexec hown hlink hnamed hmethM hstatic hkP hinitP hy (g := g) hg (argsL := argsL) (rest := rest) (hlen _ hsigM) hstack hdg
  rcases hK m meth c ⟨T.setVm vm₁, locs, cells, slots⟩ { g with stack := rest } (.invokestatic index) mk argsL.toArray X₁ hg hsize hdg hW (X₁.named hnamed) (hpre vm₁ X₁.warmed) with ⟨v, B, X', hpost, hsteps⟩ | ⟨q, B, X', hpost, hsteps⟩
  · exact Or.inl ⟨v, vm₁, B, X₁.warmed, X', hpost, fun target h => hstep₁ _ fun acts => by rw [doInvoke_state]; exact hsteps.trans h⟩
  · exact Or.inr ⟨q, vm₁, B, X₁.warmed, X', hpost, hstep₁ _ fun acts => by rw [doInvoke_state]; exact hsteps⟩
theorem vx_callVW (X : Stand p l e R s m args below meth c T locs cells slots) (hexec : p.tables.exec = Jvm.exec) {own C : String} {index : Nat} {y : MethodName} {bytes : ByteArray} {maxL : Nat} {ret : Option FieldType} {hh : List (Nat × Nat × Nat × Nat)}
    (hown : s.vm.findClass own = some m.cls) (hlink : (Cond.methodLink own index y).before args s = true) (hinst : (Cond.instanceMethod y).before args s = true) (hsel : (Cond.selects C y y).before args s = true)
    (hcode : (Cond.codeWith y bytes maxL ret hh).before args s = true) (hy : y.cls ≠ "java/lang/invoke/MethodHandle" ∧ y.cls ≠ "java/lang/invoke/VarHandle")
    {W9 : Nat} {Pre : Pt → Array Value → Prop} {Post : Pt → Array Value → Option Value → Pt → Prop} (hK : Back l R p e below s args y 3 W9 Pre Post)
    {b : Addr} {cellB : Cell} (hcell : T.heap[b]? = some cellB) (hobj : cellB.vm.isStatics = false) (hcls : s.vm.findClass C = some cellB.cls)
    {g : JFrame} (hg : g.method = m) (hsize : g.locals.size = c.maxLocals) {argsL rest : List Value} (hlen : ∀ sig, parseMethodDescriptor y.desc = some sig → argsL.length = sig.parameters.length)
    (hstack : g.stack = argsL.reverse ++ .ref b :: rest) (hW : 2 * g.monitorRoom + (rest.map fun v => v.category).sum ≤ W9) (hdg : decode c.code g.pc = .ok (.invokevirtual index, 3))
    (hpre : ∀ vm₁, s.WarmedH vm₁ → Pre ⟨T.setVm vm₁, locs, cells, slots⟩ (Value.ref b :: argsL).toArray) :
    ∃ (v : Option Value) (vm₁ : Vm) (B : Pt), s.WarmedH vm₁ ∧ Stand p l e R s m args below meth c B.U B.locs B.cells B.slots ∧ Post ⟨T.setVm vm₁, locs, cells, slots⟩ (Value.ref b :: argsL).toArray v B ∧
      ∀ target, Steps p.tables e below (B.U.setTop { g with pc := g.pc + 3, stack := v.toList ++ rest }) target → Steps p.tables e below (T.setTop g) target := by
  obtain ⟨mk, methM, hnamed, hmethM, hstM, habM⟩ := Cond.instanceMethod_spec hinst
  obtain ⟨m8, methM', cM, hn8, hmethM', -, -, -, -, -, -, hsigM⟩ := Cond.codeWith_spec hcode
  cases Option.some.inj (hn8.symm.trans hnamed)
  cases hmethM.symm.trans hmethM'
  obtain ⟨c2, r2, m2, q1, q2, q3, q4, kP, hkP, hkPi⟩ := Cond.selects_spec hsel
  cases hcls.symm.trans q1
  cases (State.methodFound?_of_named hnamed hy).symm.trans q2
  cases hnamed.symm.trans q3
  have hselP : selectMethod e.platform s.vm cellB.cls mk = .method mk := by rw [Launch.admits_selectMethod X.admits]; exact q4
  obtain ⟨vm₁, X₁, hstep₁⟩ := X.invokevirtual hexec hown hlink hnamed hmethM hstM hkP hkPi hy (a := b) (cell := cellB) hcell
    (fun z h => by rw [h] at hobj; cases hobj) hselP hmethM habM hkP hkPi (g := g) hg (argsL := argsL) (rest := rest) (hlen _ hsigM) hstack hdg
  obtain ⟨v, B, X', hpost, hsteps⟩ := hK m meth c ⟨T.setVm vm₁, locs, cells, slots⟩ { g with stack := rest } (.invokevirtual index) mk (Value.ref b :: argsL).toArray X₁ hg hsize hdg hW (X₁.named hnamed) (hpre vm₁ X₁.warmed)
  exact ⟨v, vm₁, B, X₁.warmed, X', hpost, fun target h => hstep₁ _ fun acts => by rw [doInvoke_state]; exact hsteps.trans h⟩
abbrev vx_CVW (R : Room) (s : State) (args : Array Value) (own C : String) (index : Nat) (y : MethodName) (bytes : ByteArray) (maxL : Nat) (ret : Option FieldType) (hh : List (Nat × Nat × Nat × Nat)) (ws : List Cond) (rm : Room) (mc ms n : Nat) : Prop :=
  (rm.cells = mc ∧ rm.slots = ms ∧ rm.frames + 1 ≤ R.frames ∧ 8 + (maxL + 11) + rm.locals ≤ R.locals ∧ (∀ w ∈ ws, ∀ (a' : Array Value) (U : State), s.WarmedH U.vm → w.before a' U = true) ∧ Cond.codeWith y bytes maxL ret hh ∈ ws) ∧
  (Cond.codeWith y bytes maxL ret hh).before args s = true ∧ (Cond.initialized y.cls).before args s = true ∧ (y.cls ≠ "java/lang/invoke/MethodHandle" ∧ y.cls ≠ "java/lang/invoke/VarHandle") ∧
  (∀ sig, parseMethodDescriptor y.desc = some sig → n = sig.parameters.length) ∧ (Cond.methodLink own index y).before args s = true ∧ (Cond.instanceMethod y).before args s = true ∧ (Cond.selects C y y).before args s = true
theorem vx_cwVW {own C : String} {index maxL mc ms : Nat} {y : MethodName} {bytes : ByteArray} {ret : Option FieldType} {hh : List (Nat × Nat × Nat × Nat)} {Ts ws ws' : List Cond} {rm : Room} (n : Nat) (ht : ∀ w ∈ Ts, w.before args s = true) (hT : GoodIn Ts (wsV own index C y ws)) (hw : ws = Cond.codeWith y bytes maxL ret hh :: ws') (hrc : rm.cells = mc) (hrs : rm.slots = ms)
    (hd : y.cls = C ∧ y.cls ≠ "java/lang/invoke/MethodHandle" ∧ y.cls ≠ "java/lang/invoke/VarHandle" ∧ (parseMethodDescriptor y.desc).map (fun d => d.parameters.length) = some n) (hR : rm.frames + 1 ≤ R.frames ∧ 8 + (maxL + 11) + rm.locals ≤ R.locals) :
    vx_CVW R s args own C index y bytes maxL ret hh ws rm mc ms n := by
  obtain ⟨hC, hd⟩ := hd
  subst hC
  have ok : ∀ w ∈ wsV own index y.cls y ws, w.before args s = true := fun w h => ht w (hT w h).1
  have hG : GoodIn Ts ws := fun w h => hT w (by unfold wsV; exact List.mem_append_right _ h)
  have hc : Cond.codeWith y bytes maxL ret hh ∈ ws := by rw [hw]; exact List.mem_cons_self
  refine ⟨⟨hrc, hrs, hR.1, hR.2, pay_in ht hG, hc⟩, ht _ (hG _ hc).1, ok _ (by simp [wsV]), ⟨hd.1, hd.2.1⟩, fun sig h => ?_, ok _ (by simp [wsV]), ok _ (by simp [wsV]), ok _ (by simp [wsV])⟩
  have h2 := hd.2.2
  rw [h] at h2
  exact (Option.some.inj h2).symm
theorem vx_runVW {y : MethodName} {bytes cc : ByteArray} {maxL nL mc ms n index : Nat} {ret : Option FieldType} {hh : List (Nat × Nat × Nat × Nat)} {ws : List Cond} {rm : Room} {Pc : Array Value → State → Prop} {Qc : Array Value → State → Outcome → State → Prop} {free : Addr → Prop} {Ts : List Cond} {own C : String} {b : Addr} {As rest : List Value} {g : JFrame}
    (S : CallFix p m c cc nL s args Ts own) (hM : Met l y ws rm Pc Qc mc ms free) (cw : vx_CVW R s args own C index y bytes maxL ret hh ws rm mc ms n) (hp : PreV s H C b Pc As)
    (hg : g.method = m) (hn : As.length = n) (hsize : g.locals.size = nL) (hstack : g.stack = As.reverse ++ .ref b :: rest) (hW : 2 * g.monitorRoom + (rest.map fun v => v.category).sum ≤ 8) (hdg : decode cc g.pc = .ok (.invokevirtual index, 3)) (hf : cells + mc ≤ R.cells ∧ slots + ms ≤ R.slots) :
    va_Run p l e R s m args below meth c H locs cells slots mc ms g rest (Qc (Value.ref b :: As).toArray) free := by
  obtain ⟨⟨hrc, hrs, hfr, hlo, hws, hcw⟩, hcode, hini, hy, hlen, hl, hin, hse⟩ := cw
  have hK : Back l R p e below s args y 3 8 (PreOf R mc ms Pc) (PostOf Qc mc ms free) := va_backW (hh := hh) (bytes := bytes) (maxL := maxL) (ret := ret) hM hp.1 hrc hrs hfr hlo hws hcw (fun a' U hW => word_at hW (Or.inl (by first | rfl | simp [Cond.onTables, Cond.keeps, Cond.steady])) hini)
  obtain ⟨hx, hb, hml, ho, -⟩ := S
  obtain ⟨-, ⟨cellB, hcB, hoB, hclB⟩, hPc⟩ := hp
  intro T hT X
  obtain ⟨v, vm₁, ⟨U', l2, c2, s2⟩, hW₁, X', ⟨g', mk, t, L, e1, e2, hq, h1, hL, h2, h3⟩, st⟩ := vx_callVW X hx (C := C) (hh := hh) (bytes := bytes) (maxL := maxL) (ret := ret) ho hl hin hse hcode hy hK (by rw [hT]; exact hcB) hoB hclB hg (hsize.trans hml.symm) (argsL := As) (rest := rest) (fun sig h => hn.trans (hlen sig h)) hstack hW (by rw [hb]; exact hdg)
    (fun vm₁ hW₁ => ⟨hf.1, hf.2, hPc (T.setVm vm₁) hT hW₁⟩)
  dsimp only [Pt.U, Pt.locs, Pt.cells, Pt.slots] at X' e1 e2 h1 h2 h3 st
  subst h1; subst h2; subst h3
  exact ⟨v, (T.setVm vm₁).calling g' mk (Value.ref b :: As).toArray, t, U', L, hT, X', hL, e1, e2, hq, st⟩
section
variable {y : MethodName} {bytes cc : ByteArray} {maxL nL mc ms n index : Nat} {ret : Option FieldType} {ws : List Cond} {rm : Room} {Pc : Array Value → State → Prop} {Qc : Array Value → State → Outcome → State → Prop} {XC : String → State → State → Prop} {free : Addr → Prop} {Ts : List Cond} {own C : String} {b : Addr} {As rest : List Value} {g : JFrame}
theorem vx_runVX {hh : List (Nat × Nat × Nat × Nat)} (S : CallFix p m c cc nL s args Ts own) (hM : vx_Met l y ws rm Pc Qc XC mc ms free) (cw : vx_CVW R s args own C index y bytes maxL ret hh ws rm mc ms n) (hp : PreV s H C b Pc As)
    (hg : g.method = m) (hn : As.length = n) (hsize : g.locals.size = nL) (hstack : g.stack = As.reverse ++ .ref b :: rest) (hW : 2 * g.monitorRoom + (rest.map fun v => v.category).sum ≤ 8) (hdg : decode cc g.pc = .ok (.invokevirtual index, 3)) (hf : cells + mc ≤ R.cells ∧ slots + ms ≤ R.slots) :
    vx_Run p l e R s m args below meth c H locs cells slots mc ms g rest (Qc (Value.ref b :: As).toArray) XC free := by
  obtain ⟨⟨hrc, hrs, hfr, hlo, hws, hcw⟩, hcode, hini, hy, hlen, hl, hin, hse⟩ := cw
  have hK : vx_Back l R p e below s args y 3 8 (PreOf R mc ms Pc) (PostOf Qc mc ms free) (vx_Post XC mc ms free) := vx_backW (hh := hh) (bytes := bytes) (maxL := maxL) (ret := ret) hM hp.1 hrc hrs hfr hlo hws hcw (fun a' U hW => word_at hW (Or.inl (by first | rfl | simp [Cond.onTables, Cond.keeps, Cond.steady])) hini)
  obtain ⟨hx, hb, hml, ho, -⟩ := S
  obtain ⟨-, ⟨cellB, hcB, hoB, hclB⟩, hPc⟩ := hp
  intro T hT X
  rcases vx_callVX X hx (C := C) (hh := hh) (bytes := bytes) (maxL := maxL) (ret := ret) ho hl hin hse hcode hy hK (by rw [hT]; exact hcB) hoB hclB hg (hsize.trans hml.symm) (argsL := As) (rest := rest) (fun sig h => hn.trans (hlen sig h)) hstack hW (by rw [hb]; exact hdg)
    (fun vm₁ hW₁ => ⟨hf.1, hf.2, hPc (T.setVm vm₁) hT hW₁⟩) with ⟨v, vm₁, ⟨U', l2, c2, s2⟩, hW₁, X', ⟨g', mk, t, L, e1, e2, hq, h1, hL, h2, h3⟩, st⟩ | ⟨q, vm₁, ⟨U', l2, c2, s2⟩, hW₁, X', ⟨g', mk, t, L, E, ce, e1, e2, hq, hce, hcv, hcl, h1, hL, h2, h3⟩, st⟩
  · dsimp only [Pt.U, Pt.locs, Pt.cells, Pt.slots] at X' e1 e2 h1 h2 h3 st
    subst h1; subst h2; subst h3
    exact Or.inl ⟨v, (T.setVm vm₁).calling g' mk (Value.ref b :: As).toArray, t, U', L, hT, X', hL, e1, e2, hq, st⟩
  · dsimp only [Pt.U, Pt.locs, Pt.cells, Pt.slots] at X' e1 e2 h1 h2 h3 st hcl
    subst h1; subst h2; subst h3
    exact Or.inr ⟨q, (T.setVm vm₁).calling g' mk (Value.ref b :: As).toArray, t, U', L, E, ce, hT, X', hL, e1, e2, hq, hce, hcv, vx_cls hW₁ hcl, st⟩
theorem vx_runSX {hh : List (Nat × Nat × Nat × Nat)} (S : CallFix p m c cc nL s args Ts own) (hM : vx_Met l y ws rm Pc Qc XC mc ms free) (cw : vx_CSW R s args own index y bytes maxL ret hh ws rm mc ms n) (hp : PreS s H Pc As)
    (hg : g.method = m) (hn : As.length = n) (hsize : g.locals.size = nL) (hstack : g.stack = As.reverse ++ rest) (hW : 2 * g.monitorRoom + (rest.map fun v => v.category).sum ≤ 8) (hdg : decode cc g.pc = .ok (.invokestatic index, 3)) (hf : cells + mc ≤ R.cells ∧ slots + ms ≤ R.slots) :
    vx_Run p l e R s m args below meth c H locs cells slots mc ms g rest (Qc As.toArray) XC free := by
  obtain ⟨⟨hrc, hrs, hfr, hlo, hws, hcw⟩, hcode, hini, hy, hlen, hl, hstt⟩ := cw
  have hK : vx_Back l R p e below s args y 3 8 (PreOf R mc ms Pc) (PostOf Qc mc ms free) (vx_Post XC mc ms free) := vx_backW (hh := hh) (bytes := bytes) (maxL := maxL) (ret := ret) hM hp.1 hrc hrs hfr hlo hws hcw (fun a' U hW => word_at hW (Or.inl (by first | rfl | simp [Cond.onTables, Cond.keeps, Cond.steady])) hini)
  obtain ⟨hx, hb, hml, ho, -⟩ := S
  intro T hT X
  rcases vx_callSX X hx (hh := hh) (bytes := bytes) (maxL := maxL) (ret := ret) ho hl hstt hini hcode hy hK hg (hsize.trans hml.symm) (argsL := As) (rest := rest) (fun sig h => hn.trans (hlen sig h)) hstack hW (by rw [hb]; exact hdg)
    (fun vm₁ hW₁ => ⟨hf.1, hf.2, hp.2 (T.setVm vm₁) hT hW₁⟩) with ⟨v, vm₁, ⟨U', l2, c2, s2⟩, hW₁, X', ⟨g', mk, t, L, e1, e2, hq, h1, hL, h2, h3⟩, st⟩ | ⟨q, vm₁, ⟨U', l2, c2, s2⟩, hW₁, X', ⟨g', mk, t, L, E, ce, e1, e2, hq, hce, hcv, hcl, h1, hL, h2, h3⟩, st⟩
  · dsimp only [Pt.U, Pt.locs, Pt.cells, Pt.slots] at X' e1 e2 h1 h2 h3 st
    subst h1; subst h2; subst h3
    exact Or.inl ⟨v, (T.setVm vm₁).calling g' mk As.toArray, t, U', L, hT, X', hL, e1, e2, hq, st⟩
  · dsimp only [Pt.U, Pt.locs, Pt.cells, Pt.slots] at X' e1 e2 h1 h2 h3 st hcl
    subst h1; subst h2; subst h3
    exact Or.inr ⟨q, (T.setVm vm₁).calling g' mk As.toArray, t, U', L, E, ce, hT, X', hL, e1, e2, hq, hce, hcv, vx_cls hW₁ hcl, st⟩
end
end VXH
theorem vx_ofWH {l : Launch} {y : MethodName} {ws ws' : List Cond} {rm : Room} {Pc : Array Value → State → Prop} {Qc : Array Value → State → Outcome → State → Prop} {XC : String → State → State → Prop} {mc ms : Nat} {free : Addr → Prop} {cc : ByteArray} {maxL : Nat} {ret : Option FieldType} {hh : List (Nat × Nat × Nat × Nat)}
    (hy : plainName y.cls = true) (hw : ws = Cond.codeWith y cc maxL ret hh :: ws')
    (body : ∀ p e s m args below meth c s₁, BodyLoose p l y (headSpec ws rm) cc maxL ret e s m args below meth c s₁ → c.maxLocals = maxL → Pc args s →
      W p l e (headSpec ws rm).room s m args below meth c s.heap [] 0 0 (vx_MQ below Qc XC args s mc ms free) (entryFrame m args maxL)) : vx_Met l y ws rm Pc Qc XC mc ms free := by
  refine MetFree.of_bodyS (code := cc) (maxLocals := maxL) (ret := ret) hy ?_ ?_
  · intro args s m h hn
    obtain ⟨m9, meth, c, hn9, h1, h2, h3, h4, -, h5, h6, -⟩ := Cond.codeWith_spec (atoms_spec (ws := ws) h _ (by rw [hw]; exact List.mem_cons_self))
    cases hn.symm.trans hn9
    exact ⟨meth, c, h1, h2, h3, h4, h5, h6⟩
  · intro p e s m args below meth c s₁ B hml hP _
    have hh0 : s₁.heap = s.heap := by rw [B.state]; rfl
    obtain ⟨t, a1, o, b1, b2, b3⟩ := body p e s m args below meth c s₁ B hml hP s₁ hh0 (Stand.of_body B)
    exact ⟨t, o, a1, b1, b2, b3⟩
/-! ===== END ===== -/
end
section
/-! ===== BEGIN printed: names, fields, word lists, decode rows ===== -/
def RX0 : String := "SecondHelpings$Book"
def TX0 : u_T := fun k => match k with
  | 0 => ("SecondHelpings$Book", "acts", "[I", true)
  | 1 => ("SecondHelpings$Book", "who", "[I", true)
  | 2 => ("SecondHelpings$Book", "dishes", "[I", true)
  | 3 => ("SecondHelpings$Book", "numbers", "[I", true)
  | 4 => ("SecondHelpings$Book", "lines", "I", false)
  | 5 => ("SecondHelpings$Book", "judged", "Z", false)
  | 6 => ("SecondHelpings$Book", "whyWrong", "I", false)
  | 7 => ("SecondHelpings$Book", "goodLines", "I", false)
  | 8 => ("SecondHelpings$Book", "mealThen", "I", false)
  | _ => ("SecondHelpings$Book", "deadThen", "I", false)
def tyX0 : Nat → FieldType := fun k => match k with
  | 0 => .array .int
  | 1 => .array .int
  | 2 => .array .int
  | 3 => .array .int
  | 4 => .int
  | 5 => .boolean
  | 6 => .int
  | 7 => .int
  | 8 => .int
  | _ => .int
theorem nmX0 : ∀ a, a < 10 → ∀ b, b < 10 → a ≠ b → (TX0 a).2.1 ≠ (TX0 b).2.1 := by decide +kernel
theorem tyX0_ok : ∀ k, k < 10 → parseFieldDescriptor (TX0 k).2.2.1 = some (tyX0 k) := by decide +kernel
abbrev cX0_init : ByteArray := prog_2_method_1_code
def yX0_init : MethodName := ⟨RX0, "<init>", "()V"⟩
abbrev cX0_readFrom : ByteArray := prog_2_method_2_code
def yX0_readFrom : MethodName := ⟨RX0, "readFrom", "(LSecondHelpings$Tape;LSecondHelpings$Table;)V"⟩
abbrev cX0_readLine : ByteArray := prog_2_method_3_code
def yX0_readLine : MethodName := ⟨RX0, "readLine", "(LSecondHelpings$Tape;LSecondHelpings$Table;)Z"⟩
abbrev cX0_readAct : ByteArray := prog_2_method_4_code
def yX0_readAct : MethodName := ⟨RX0, "readAct", "(LSecondHelpings$Tape;LSecondHelpings$Table;)Z"⟩
abbrev cX0_mostOf : ByteArray := prog_2_method_5_code
def yX0_mostOf : MethodName := ⟨RX0, "mostOf", "(I)I"⟩
abbrev cX0_judgeBy : ByteArray := prog_2_method_6_code
def yX0_judgeBy : MethodName := ⟨RX0, "judgeBy", "(LSecondHelpings$Course;)V"⟩
abbrev cX0_live : ByteArray := prog_2_method_7_code
def yX0_live : MethodName := ⟨RX0, "live", "(LSecondHelpings$Course;I)I"⟩
abbrev cX0_behind : ByteArray := prog_2_method_8_code
def yX0_behind : MethodName := ⟨RX0, "behind", "(II)I"⟩
abbrev cX0_liveMeals : ByteArray := prog_2_method_9_code
def yX0_liveMeals : MethodName := ⟨RX0, "liveMeals", "(LSecondHelpings$Course;I)I"⟩
def RX1 : String := "SecondHelpings$Course"
def TX1 : u_T := fun k => match k with
  | 0 => ("SecondHelpings$Course", "table", "LSecondHelpings$Table;", true)
  | 1 => ("SecondHelpings$Course", "parts", "[I", true)
  | 2 => ("SecondHelpings$Course", "plates", "[I", true)
  | 3 => ("SecondHelpings$Course", "loads", "[I", true)
  | 4 => ("SecondHelpings$Course", "eaten", "[I", true)
  | 5 => ("SecondHelpings$Course", "atMeal", "[I", true)
  | 6 => ("SecondHelpings$Course", "hunger", "[I", true)
  | 7 => ("SecondHelpings$Course", "dead", "I", false)
  | 8 => ("SecondHelpings$Course", "refusing", "I", false)
  | 9 => ("SecondHelpings$Course", "meal", "I", false)
  | 10 => ("SecondHelpings$Course", "dogsHad", "I", false)
  | 11 => ("SecondHelpings$Course", "spoiled", "I", false)
  | 12 => ("SecondHelpings$Course", "passes", "I", false)
  | _ => ("SecondHelpings$Course", "seed", "I", false)
def tyX1 : Nat → FieldType := fun k => match k with
  | 0 => .object "SecondHelpings$Table"
  | 1 => .array .int
  | 2 => .array .int
  | 3 => .array .int
  | 4 => .array .int
  | 5 => .array .int
  | 6 => .array .int
  | 7 => .int
  | 8 => .int
  | 9 => .int
  | 10 => .int
  | 11 => .int
  | 12 => .int
  | _ => .int
theorem nmX1 : ∀ a, a < 14 → ∀ b, b < 14 → a ≠ b → (TX1 a).2.1 ≠ (TX1 b).2.1 := by decide +kernel
theorem tyX1_ok : ∀ k, k < 14 → parseFieldDescriptor (TX1 k).2.2.1 = some (tyX1 k) := by decide +kernel
abbrev cX1_init : ByteArray := prog_3_method_1_code
def yX1_init : MethodName := ⟨RX1, "<init>", "(LSecondHelpings$Table;)V"⟩
abbrev cX1_forget : ByteArray := prog_3_method_2_code
def yX1_forget : MethodName := ⟨RX1, "forget", "()V"⟩
abbrev cX1_become : ByteArray := prog_3_method_3_code
def yX1_become : MethodName := ⟨RX1, "become", "(LSecondHelpings$Course;)V"⟩
abbrev cX1_lives : ByteArray := prog_3_method_4_code
def yX1_lives : MethodName := ⟨RX1, "lives", "(I)Z"⟩
abbrev cX1_living : ByteArray := prog_3_method_5_code
def yX1_living : MethodName := ⟨RX1, "living", "()I"⟩
abbrev cX1_onPlate : ByteArray := prog_3_method_6_code
def yX1_onPlate : MethodName := ⟨RX1, "onPlate", "(II)I"⟩
abbrev cX1_addToPlate : ByteArray := prog_3_method_7_code
def yX1_addToPlate : MethodName := ⟨RX1, "addToPlate", "(III)V"⟩
abbrev cX1_onPlatesOf : ByteArray := prog_3_method_8_code
def yX1_onPlatesOf : MethodName := ⟨RX1, "onPlatesOf", "(II)I"⟩
abbrev cX1_wantsYet : ByteArray := prog_3_method_9_code
def yX1_wantsYet : MethodName := ⟨RX1, "wantsYet", "(I)I"⟩
abbrev cX1_allEaten : ByteArray := prog_3_method_10_code
def yX1_allEaten : MethodName := ⟨RX1, "allEaten", "()I"⟩
abbrev cX1_allHunger : ByteArray := prog_3_method_11_code
def yX1_allHunger : MethodName := ⟨RX1, "allHunger", "()I"⟩
abbrev cX1_heirOf : ByteArray := prog_3_method_12_code
def yX1_heirOf : MethodName := ⟨RX1, "heirOf", "(II)I"⟩
abbrev cX1_leastFed : ByteArray := prog_3_method_13_code
def yX1_leastFed : MethodName := ⟨RX1, "leastFed", "(I)I"⟩
abbrev cX1_firstBehind : ByteArray := prog_3_method_14_code
def yX1_firstBehind : MethodName := ⟨RX1, "firstBehind", "(II)I"⟩
abbrev cX1_passOn : ByteArray := prog_3_method_15_code
def yX1_passOn : MethodName := ⟨RX1, "passOn", "(I)V"⟩
abbrev cX1_eatUp : ByteArray := prog_3_method_16_code
def yX1_eatUp : MethodName := ⟨RX1, "eatUp", "(III)V"⟩
abbrev cX1_eatAll : ByteArray := prog_3_method_17_code
def yX1_eatAll : MethodName := ⟨RX1, "eatAll", "(I)V"⟩
abbrev cX1_tryToEat : ByteArray := prog_3_method_18_code
def yX1_tryToEat : MethodName := ⟨RX1, "tryToEat", "(III)I"⟩
abbrev cX1_tryToServe : ByteArray := prog_3_method_19_code
def yX1_tryToServe : MethodName := ⟨RX1, "tryToServe", "(III)I"⟩
abbrev cX1_tryToRise : ByteArray := prog_3_method_20_code
def yX1_tryToRise : MethodName := ⟨RX1, "tryToRise", "(I)I"⟩
abbrev cX1_tryToRefuse : ByteArray := prog_3_method_21_code
def yX1_tryToRefuse : MethodName := ⟨RX1, "tryToRefuse", "(I)I"⟩
abbrev cX1_tryToAccept : ByteArray := prog_3_method_22_code
def yX1_tryToAccept : MethodName := ⟨RX1, "tryToAccept", "(I)I"⟩
abbrev cX1_tryToDie : ByteArray := prog_3_method_23_code
def yX1_tryToDie : MethodName := ⟨RX1, "tryToDie", "(I)I"⟩
abbrev cX1_endMeal : ByteArray := prog_3_method_24_code
def yX1_endMeal : MethodName := ⟨RX1, "endMeal", "()V"⟩
abbrev cX1_letMealsGo : ByteArray := prog_3_method_25_code
def yX1_letMealsGo : MethodName := ⟨RX1, "letMealsGo", "(I)I"⟩
abbrev cX1_draw : ByteArray := prog_3_method_26_code
def yX1_draw : MethodName := ⟨RX1, "draw", "(I)I"⟩
abbrev cX1_actByDraw : ByteArray := prog_3_method_27_code
def yX1_actByDraw : MethodName := ⟨RX1, "actByDraw", "(I)V"⟩
abbrev cX1_drawMeals : ByteArray := prog_3_method_28_code
def yX1_drawMeals : MethodName := ⟨RX1, "drawMeals", "(II)I"⟩
def RX2 : String := "SecondHelpings$Guess"
def TX2 : u_T := fun k => match k with
  | 0 => ("SecondHelpings$Guess", "setsOf", "[I", true)
  | 1 => ("SecondHelpings$Guess", "inEach", "I", false)
  | _ => ("SecondHelpings$Guess", "toAsk", "I", false)
def tyX2 : Nat → FieldType := fun k => match k with
  | 0 => .array .int
  | 1 => .int
  | _ => .int
theorem nmX2 : ∀ a, a < 3 → ∀ b, b < 3 → a ≠ b → (TX2 a).2.1 ≠ (TX2 b).2.1 := by decide +kernel
theorem tyX2_ok : ∀ k, k < 3 → parseFieldDescriptor (TX2 k).2.2.1 = some (tyX2 k) := by decide +kernel
abbrev cX2_init : ByteArray := prog_4_method_1_code
def yX2_init : MethodName := ⟨RX2, "<init>", "()V"⟩
abbrev cX2_setsWith : ByteArray := prog_4_method_2_code
def yX2_setsWith : MethodName := ⟨RX2, "setsWith", "(LSecondHelpings$Course;II)I"⟩
abbrev cX2_countIn : ByteArray := prog_4_method_3_code
def yX2_countIn : MethodName := ⟨RX2, "countIn", "(I)V"⟩
abbrev cX2_nearestToHalf : ByteArray := prog_4_method_4_code
def yX2_nearestToHalf : MethodName := ⟨RX2, "nearestToHalf", "(II)I"⟩
def RX3 : String := "SecondHelpings$Image"
def TX3 : u_T := fun k => match k with
  | 0 => ("SecondHelpings$Image", "heard", "LSecondHelpings$Table;", true)
  | 1 => ("SecondHelpings$Image", "course", "LSecondHelpings$Course;", true)
  | 2 => ("SecondHelpings$Image", "saying", "LSecondHelpings$Sentence;", true)
  | _ => ("SecondHelpings$Image", "kept", "Z", false)
def tyX3 : Nat → FieldType := fun k => match k with
  | 0 => .object "SecondHelpings$Table"
  | 1 => .object "SecondHelpings$Course"
  | 2 => .object "SecondHelpings$Sentence"
  | _ => .boolean
theorem nmX3 : ∀ a, a < 4 → ∀ b, b < 4 → a ≠ b → (TX3 a).2.1 ≠ (TX3 b).2.1 := by decide +kernel
theorem tyX3_ok : ∀ k, k < 4 → parseFieldDescriptor (TX3 k).2.2.1 = some (tyX3 k) := by decide +kernel
abbrev cX3_init : ByteArray := prog_5_method_1_code
def yX3_init : MethodName := ⟨RX3, "<init>", "()V"⟩
abbrev cX3_keep : ByteArray := prog_5_method_2_code
def yX3_keep : MethodName := ⟨RX3, "keep", "(LSecondHelpings$Table;LSecondHelpings$Course;LSecondHelpings$Sentence;)V"⟩
def RX4 : String := "SecondHelpings$Order"
def TX4 : u_T := fun k => match k with
  | 0 => ("SecondHelpings$Order", "courses", "[LSecondHelpings$Course;", true)
  | 1 => ("SecondHelpings$Order", "row", "[I", true)
  | 2 => ("SecondHelpings$Order", "best", "[I", true)
  | 3 => ("SecondHelpings$Order", "places", "I", false)
  | _ => ("SecondHelpings$Order", "fewest", "I", false)
def tyX4 : Nat → FieldType := fun k => match k with
  | 0 => .array (.object "SecondHelpings$Course")
  | 1 => .array .int
  | 2 => .array .int
  | 3 => .int
  | _ => .int
theorem nmX4 : ∀ a, a < 5 → ∀ b, b < 5 → a ≠ b → (TX4 a).2.1 ≠ (TX4 b).2.1 := by decide +kernel
theorem tyX4_ok : ∀ k, k < 5 → parseFieldDescriptor (TX4 k).2.2.1 = some (tyX4 k) := by decide +kernel
abbrev cX4_init : ByteArray := prog_6_method_1_code
def yX4_init : MethodName := ⟨RX4, "<init>", "(LSecondHelpings$Table;)V"⟩
abbrev cX4_findFrom : ByteArray := prog_6_method_2_code
def yX4_findFrom : MethodName := ⟨RX4, "findFrom", "(LSecondHelpings$Course;)I"⟩
abbrev cX4_goOn : ByteArray := prog_6_method_3_code
def yX4_goOn : MethodName := ⟨RX4, "goOn", "(III)V"⟩
abbrev cX4_atLeastWanted : ByteArray := prog_6_method_4_code
def yX4_atLeastWanted : MethodName := ⟨RX4, "atLeastWanted", "(LSecondHelpings$Course;I)I"⟩
def RX5 : String := "SecondHelpings$Past"
def TX5 : u_T := fun k => match k with
  | 0 => ("SecondHelpings$Past", "courses", "[LSecondHelpings$Course;", true)
  | 1 => ("SecondHelpings$Past", "kept", "I", false)
  | _ => ("SecondHelpings$Past", "free", "I", false)
def tyX5 : Nat → FieldType := fun k => match k with
  | 0 => .array (.object "SecondHelpings$Course")
  | 1 => .int
  | _ => .int
theorem nmX5 : ∀ a, a < 3 → ∀ b, b < 3 → a ≠ b → (TX5 a).2.1 ≠ (TX5 b).2.1 := by decide +kernel
theorem tyX5_ok : ∀ k, k < 3 → parseFieldDescriptor (TX5 k).2.2.1 = some (tyX5 k) := by decide +kernel
abbrev cX5_init : ByteArray := prog_7_method_1_code
def yX5_init : MethodName := ⟨RX5, "<init>", "(LSecondHelpings$Table;)V"⟩
abbrev cX5_forget : ByteArray := prog_7_method_2_code
def yX5_forget : MethodName := ⟨RX5, "forget", "()V"⟩
abbrev cX5_note : ByteArray := prog_7_method_3_code
def yX5_note : MethodName := ⟨RX5, "note", "(LSecondHelpings$Course;)V"⟩
abbrev cX5_keepNoted : ByteArray := prog_7_method_4_code
def yX5_keepNoted : MethodName := ⟨RX5, "keepNoted", "()V"⟩
abbrev cX5_takeBack : ByteArray := prog_7_method_5_code
def yX5_takeBack : MethodName := ⟨RX5, "takeBack", "(LSecondHelpings$Course;)I"⟩
def RX6 : String := "SecondHelpings$Seating"
def TX6 : u_T := fun k => match k with
  | 0 => ("SecondHelpings$Seating", "row", "[I", true)
  | _ => ("SecondHelpings$Seating", "places", "I", false)
def tyX6 : Nat → FieldType := fun k => match k with
  | 0 => .array .int
  | _ => .int
theorem nmX6 : ∀ a, a < 2 → ∀ b, b < 2 → a ≠ b → (TX6 a).2.1 ≠ (TX6 b).2.1 := by decide +kernel
theorem tyX6_ok : ∀ k, k < 2 → parseFieldDescriptor (TX6 k).2.2.1 = some (tyX6 k) := by decide +kernel
abbrev cX6_init : ByteArray := prog_8_method_1_code
def yX6_init : MethodName := ⟨RX6, "<init>", "()V"⟩
abbrev cX6_seat : ByteArray := prog_8_method_2_code
def yX6_seat : MethodName := ⟨RX6, "seat", "(LSecondHelpings$Course;)I"⟩
abbrev cX6_leastFor : ByteArray := prog_8_method_3_code
def yX6_leastFor : MethodName := ⟨RX6, "leastFor", "(LSecondHelpings$Table;III)I"⟩
abbrev cX6_isChild : ByteArray := prog_8_method_4_code
def yX6_isChild : MethodName := ⟨RX6, "isChild", "(LSecondHelpings$Table;II)I"⟩
abbrev cX6_parentsAmong : ByteArray := prog_8_method_5_code
def yX6_parentsAmong : MethodName := ⟨RX6, "parentsAmong", "(LSecondHelpings$Table;II)I"⟩
def RX7 : String := "SecondHelpings$Sentence"
def TX7 : u_T := fun k => match k with
  | 0 => ("SecondHelpings$Sentence", "steps", "[I", true)
  | 1 => ("SecondHelpings$Sentence", "signs", "[I", true)
  | 2 => ("SecondHelpings$Sentence", "numbers", "[I", true)
  | 3 => ("SecondHelpings$Sentence", "results", "[I", true)
  | 4 => ("SecondHelpings$Sentence", "length", "I", false)
  | _ => ("SecondHelpings$Sentence", "ones", "I", false)
def tyX7 : Nat → FieldType := fun k => match k with
  | 0 => .array .int
  | 1 => .array .int
  | 2 => .array .int
  | 3 => .array .int
  | 4 => .int
  | _ => .int
theorem nmX7 : ∀ a, a < 6 → ∀ b, b < 6 → a ≠ b → (TX7 a).2.1 ≠ (TX7 b).2.1 := by decide +kernel
theorem tyX7_ok : ∀ k, k < 6 → parseFieldDescriptor (TX7 k).2.2.1 = some (tyX7 k) := by decide +kernel
abbrev cX7_init : ByteArray := prog_9_method_1_code
def yX7_init : MethodName := ⟨RX7, "<init>", "()V"⟩
abbrev cX7_forget : ByteArray := prog_9_method_2_code
def yX7_forget : MethodName := ⟨RX7, "forget", "()V"⟩
abbrev cX7_become : ByteArray := prog_9_method_3_code
def yX7_become : MethodName := ⟨RX7, "become", "(LSecondHelpings$Sentence;)V"⟩
abbrev cX7_readFrom : ByteArray := prog_9_method_4_code
def yX7_readFrom : MethodName := ⟨RX7, "readFrom", "(LSecondHelpings$Tape;LSecondHelpings$Table;)Z"⟩
abbrev cX7_readCond : ByteArray := prog_9_method_5_code
def yX7_readCond : MethodName := ⟨RX7, "readCond", "(LSecondHelpings$Tape;LSecondHelpings$Table;I)Z"⟩
abbrev cX7_readAll : ByteArray := prog_9_method_6_code
def yX7_readAll : MethodName := ⟨RX7, "readAll", "(LSecondHelpings$Tape;LSecondHelpings$Table;I)Z"⟩
abbrev cX7_readOne : ByteArray := prog_9_method_7_code
def yX7_readOne : MethodName := ⟨RX7, "readOne", "(LSecondHelpings$Tape;LSecondHelpings$Table;I)Z"⟩
abbrev cX7_beginsOne : ByteArray := prog_9_method_8_code
def yX7_beginsOne : MethodName := ⟨RX7, "beginsOne", "(I)Z"⟩
abbrev cX7_readPlainOne : ByteArray := prog_9_method_9_code
def yX7_readPlainOne : MethodName := ⟨RX7, "readPlainOne", "(LSecondHelpings$Tape;LSecondHelpings$Table;I)Z"⟩
abbrev cX7_addStep : ByteArray := prog_9_method_10_code
def yX7_addStep : MethodName := ⟨RX7, "addStep", "(III)Z"⟩
abbrev cX7_personsIn : ByteArray := prog_9_method_11_code
def yX7_personsIn : MethodName := ⟨RX7, "personsIn", "(LSecondHelpings$Course;)I"⟩
abbrev cX7_thoseOf : ByteArray := prog_9_method_12_code
def yX7_thoseOf : MethodName := ⟨RX7, "thoseOf", "(LSecondHelpings$Course;I)I"⟩
abbrev cX7_holds : ByteArray := prog_9_method_13_code
def yX7_holds : MethodName := ⟨RX7, "holds", "(LSecondHelpings$Course;II)Z"⟩
abbrev cX7_compares : ByteArray := prog_9_method_14_code
def yX7_compares : MethodName := ⟨RX7, "compares", "(II)Z"⟩
def RX8 : String := "SecondHelpings$Table"
def TX8 : u_T := fun k => match k with
  | 0 => ("SecondHelpings$Table", "personNames", "[J", true)
  | 1 => ("SecondHelpings$Table", "wants", "[I", true)
  | 2 => ("SecondHelpings$Table", "parents", "[I", true)
  | 3 => ("SecondHelpings$Table", "dishNames", "[J", true)
  | 4 => ("SecondHelpings$Table", "spoils", "[I", true)
  | 5 => ("SecondHelpings$Table", "persons", "I", false)
  | 6 => ("SecondHelpings$Table", "dishes", "I", false)
  | 7 => ("SecondHelpings$Table", "law", "I", false)
  | _ => ("SecondHelpings$Table", "dogs", "I", false)
def tyX8 : Nat → FieldType := fun k => match k with
  | 0 => .array .long
  | 1 => .array .int
  | 2 => .array .int
  | 3 => .array .long
  | 4 => .array .int
  | 5 => .int
  | 6 => .int
  | 7 => .int
  | _ => .int
theorem nmX8 : ∀ a, a < 9 → ∀ b, b < 9 → a ≠ b → (TX8 a).2.1 ≠ (TX8 b).2.1 := by decide +kernel
theorem tyX8_ok : ∀ k, k < 9 → parseFieldDescriptor (TX8 k).2.2.1 = some (tyX8 k) := by decide +kernel
abbrev cX8_init : ByteArray := prog_10_method_1_code
def yX8_init : MethodName := ⟨RX8, "<init>", "()V"⟩
abbrev cX8_forget : ByteArray := prog_10_method_2_code
def yX8_forget : MethodName := ⟨RX8, "forget", "()V"⟩
abbrev cX8_become : ByteArray := prog_10_method_3_code
def yX8_become : MethodName := ⟨RX8, "become", "(LSecondHelpings$Table;)V"⟩
abbrev cX8_hasPerson : ByteArray := prog_10_method_4_code
def yX8_hasPerson : MethodName := ⟨RX8, "hasPerson", "(I)Z"⟩
abbrev cX8_hasDish : ByteArray := prog_10_method_5_code
def yX8_hasDish : MethodName := ⟨RX8, "hasDish", "(I)Z"⟩
abbrev cX8_everybody : ByteArray := prog_10_method_6_code
def yX8_everybody : MethodName := ⟨RX8, "everybody", "()I"⟩
abbrev cX8_personNamed : ByteArray := prog_10_method_7_code
def yX8_personNamed : MethodName := ⟨RX8, "personNamed", "(J)I"⟩
abbrev cX8_dishNamed : ByteArray := prog_10_method_8_code
def yX8_dishNamed : MethodName := ⟨RX8, "dishNamed", "(J)I"⟩
abbrev cX8_childrenOf : ByteArray := prog_10_method_9_code
def yX8_childrenOf : MethodName := ⟨RX8, "childrenOf", "(I)I"⟩
abbrev cX8_stepsBetween : ByteArray := prog_10_method_10_code
def yX8_stepsBetween : MethodName := ⟨RX8, "stepsBetween", "(II)I"⟩
abbrev cX8_shareOf : ByteArray := prog_10_method_11_code
def yX8_shareOf : MethodName := ⟨RX8, "shareOf", "(III)I"⟩
def RX9 : String := "SecondHelpings$TableReader"
def TX9 : u_T := fun k => match k with
  | 0 => ("SecondHelpings$TableReader", "heard", "LSecondHelpings$Table;", true)
  | 1 => ("SecondHelpings$TableReader", "start", "LSecondHelpings$Course;", true)
  | 2 => ("SecondHelpings$TableReader", "lawTold", "Z", false)
  | _ => ("SecondHelpings$TableReader", "dogsTold", "Z", false)
def tyX9 : Nat → FieldType := fun k => match k with
  | 0 => .object "SecondHelpings$Table"
  | 1 => .object "SecondHelpings$Course"
  | 2 => .boolean
  | _ => .boolean
theorem nmX9 : ∀ a, a < 4 → ∀ b, b < 4 → a ≠ b → (TX9 a).2.1 ≠ (TX9 b).2.1 := by decide +kernel
theorem tyX9_ok : ∀ k, k < 4 → parseFieldDescriptor (TX9 k).2.2.1 = some (tyX9 k) := by decide +kernel
abbrev cX9_init : ByteArray := prog_11_method_1_code
def yX9_init : MethodName := ⟨RX9, "<init>", "()V"⟩
abbrev cX9_readFrom : ByteArray := prog_11_method_2_code
def yX9_readFrom : MethodName := ⟨RX9, "readFrom", "(LSecondHelpings$Tape;)I"⟩
abbrev cX9_readLine : ByteArray := prog_11_method_3_code
def yX9_readLine : MethodName := ⟨RX9, "readLine", "(LSecondHelpings$Tape;)Z"⟩
abbrev cX9_newName : ByteArray := prog_11_method_4_code
def yX9_newName : MethodName := ⟨RX9, "newName", "(LSecondHelpings$Tape;)Z"⟩
abbrev cX9_readPerson : ByteArray := prog_11_method_5_code
def yX9_readPerson : MethodName := ⟨RX9, "readPerson", "(LSecondHelpings$Tape;)Z"⟩
abbrev cX9_readDish : ByteArray := prog_11_method_6_code
def yX9_readDish : MethodName := ⟨RX9, "readDish", "(LSecondHelpings$Tape;)Z"⟩
abbrev cX9_readPlate : ByteArray := prog_11_method_7_code
def yX9_readPlate : MethodName := ⟨RX9, "readPlate", "(LSecondHelpings$Tape;)Z"⟩
abbrev cX9_readLaw : ByteArray := prog_11_method_8_code
def yX9_readLaw : MethodName := ⟨RX9, "readLaw", "(LSecondHelpings$Tape;)Z"⟩
abbrev cX9_readDogs : ByteArray := prog_11_method_9_code
def yX9_readDogs : MethodName := ⟨RX9, "readDogs", "(LSecondHelpings$Tape;)Z"⟩
def RX10 : String := "SecondHelpings$Tape"
def TX10 : u_T := fun k => match k with
  | 0 => ("SecondHelpings$Tape", "bytes", "[B", true)
  | 1 => ("SecondHelpings$Tape", "words", "[J", true)
  | 2 => ("SecondHelpings$Tape", "tokens", "[I", true)
  | 3 => ("SecondHelpings$Tape", "places", "[I", true)
  | 4 => ("SecondHelpings$Tape", "values", "[J", true)
  | 5 => ("SecondHelpings$Tape", "length", "I", false)
  | 6 => ("SecondHelpings$Tape", "read", "I", false)
  | 7 => ("SecondHelpings$Tape", "at", "I", false)
  | 8 => ("SecondHelpings$Tape", "token", "I", false)
  | 9 => ("SecondHelpings$Tape", "place", "I", false)
  | 10 => ("SecondHelpings$Tape", "value", "J", false)
  | 11 => ("SecondHelpings$Tape", "fault", "I", false)
  | _ => ("SecondHelpings$Tape", "faultAt", "I", false)
def tyX10 : Nat → FieldType := fun k => match k with
  | 0 => .array .byte
  | 1 => .array .long
  | 2 => .array .int
  | 3 => .array .int
  | 4 => .array .long
  | 5 => .int
  | 6 => .int
  | 7 => .int
  | 8 => .int
  | 9 => .int
  | 10 => .long
  | 11 => .int
  | _ => .int
theorem nmX10 : ∀ a, a < 13 → ∀ b, b < 13 → a ≠ b → (TX10 a).2.1 ≠ (TX10 b).2.1 := by decide +kernel
theorem tyX10_ok : ∀ k, k < 13 → parseFieldDescriptor (TX10 k).2.2.1 = some (tyX10 k) := by decide +kernel
abbrev cX10_init : ByteArray := prog_12_method_1_code
def yX10_init : MethodName := ⟨RX10, "<init>", "()V"⟩
abbrev cX10_withLetter : ByteArray := prog_12_method_2_code
def yX10_withLetter : MethodName := ⟨RX10, "withLetter", "(JI)J"⟩
abbrev cX10_isLetter : ByteArray := prog_12_method_3_code
def yX10_isLetter : MethodName := ⟨RX10, "isLetter", "(I)Z"⟩
abbrev cX10_isDigit : ByteArray := prog_12_method_4_code
def yX10_isDigit : MethodName := ⟨RX10, "isDigit", "(I)Z"⟩
abbrev cX10_isSign : ByteArray := prog_12_method_5_code
def yX10_isSign : MethodName := ⟨RX10, "isSign", "(I)Z"⟩
abbrev cX10_add : ByteArray := prog_12_method_6_code
def yX10_add : MethodName := ⟨RX10, "add", "(I)V"⟩
abbrev cX10_byteOf : ByteArray := prog_12_method_7_code
def yX10_byteOf : MethodName := ⟨RX10, "byteOf", "(I)I"⟩
abbrev cX10_begin : ByteArray := prog_12_method_8_code
def yX10_begin : MethodName := ⟨RX10, "begin", "(I)V"⟩
abbrev cX10_readToken : ByteArray := prog_12_method_9_code
def yX10_readToken : MethodName := ⟨RX10, "readToken", "(I)I"⟩
abbrev cX10_tokenOfWord : ByteArray := prog_12_method_10_code
def yX10_tokenOfWord : MethodName := ⟨RX10, "tokenOfWord", "(J)I"⟩
abbrev cX10_addToken : ByteArray := prog_12_method_11_code
def yX10_addToken : MethodName := ⟨RX10, "addToken", "(IIJ)V"⟩
abbrev cX10_advance : ByteArray := prog_12_method_12_code
def yX10_advance : MethodName := ⟨RX10, "advance", "()V"⟩
abbrev cX10_fail : ByteArray := prog_12_method_13_code
def yX10_fail : MethodName := ⟨RX10, "fail", "(I)Z"⟩
abbrev cX10_take : ByteArray := prog_12_method_14_code
def yX10_take : MethodName := ⟨RX10, "take", "(I)Z"⟩
abbrev cX10_takeNumber : ByteArray := prog_12_method_15_code
def yX10_takeNumber : MethodName := ⟨RX10, "takeNumber", "(II)I"⟩
abbrev cX10_takeName : ByteArray := prog_12_method_16_code
def yX10_takeName : MethodName := ⟨RX10, "takeName", "(I)I"⟩
def RX11 : String := "SecondHelpings"
def TX11 : u_T := fun k => match k with
  | 0 => ("SecondHelpings", "tape", "LSecondHelpings$Tape;", true)
  | 1 => ("SecondHelpings", "heard", "LSecondHelpings$Table;", true)
  | 2 => ("SecondHelpings", "course", "LSecondHelpings$Course;", true)
  | 3 => ("SecondHelpings", "trial", "LSecondHelpings$Course;", true)
  | 4 => ("SecondHelpings", "past", "LSecondHelpings$Past;", true)
  | 5 => ("SecondHelpings", "tableReader", "LSecondHelpings$TableReader;", true)
  | 6 => ("SecondHelpings", "latestBook", "LSecondHelpings$Book;", true)
  | 7 => ("SecondHelpings", "saying", "LSecondHelpings$Sentence;", true)
  | 8 => ("SecondHelpings", "draft", "LSecondHelpings$Sentence;", true)
  | 9 => ("SecondHelpings", "latestOrder", "LSecondHelpings$Order;", true)
  | 10 => ("SecondHelpings", "latestSeats", "LSecondHelpings$Seating;", true)
  | 11 => ("SecondHelpings", "latestGuess", "LSecondHelpings$Guess;", true)
  | 12 => ("SecondHelpings", "images", "[LSecondHelpings$Image;", true)
  | 13 => ("SecondHelpings", "willBytes", "[B", true)
  | _ => ("SecondHelpings", "willLength", "I", false)
def tyX11 : Nat → FieldType := fun k => match k with
  | 0 => .object "SecondHelpings$Tape"
  | 1 => .object "SecondHelpings$Table"
  | 2 => .object "SecondHelpings$Course"
  | 3 => .object "SecondHelpings$Course"
  | 4 => .object "SecondHelpings$Past"
  | 5 => .object "SecondHelpings$TableReader"
  | 6 => .object "SecondHelpings$Book"
  | 7 => .object "SecondHelpings$Sentence"
  | 8 => .object "SecondHelpings$Sentence"
  | 9 => .object "SecondHelpings$Order"
  | 10 => .object "SecondHelpings$Seating"
  | 11 => .object "SecondHelpings$Guess"
  | 12 => .array (.object "SecondHelpings$Image")
  | 13 => .array .byte
  | _ => .int
theorem nmX11 : ∀ a, a < 15 → ∀ b, b < 15 → a ≠ b → (TX11 a).2.1 ≠ (TX11 b).2.1 := by decide +kernel
theorem tyX11_ok : ∀ k, k < 15 → parseFieldDescriptor (TX11 k).2.2.1 = some (tyX11 k) := by decide +kernel
abbrev cX11_init : ByteArray := prog_1_method_1_code
def yX11_init : MethodName := ⟨RX11, "<init>", "()V"⟩
abbrev cX11_feed : ByteArray := prog_1_method_2_code
def yX11_feed : MethodName := ⟨RX11, "feed", "(IIIII)I"⟩
abbrev cX11_end : ByteArray := prog_1_method_3_code
def yX11_end : MethodName := ⟨RX11, "end", "(I)Z"⟩
abbrev cX11_table : ByteArray := prog_1_method_4_code
def yX11_table : MethodName := ⟨RX11, "table", "()I"⟩
abbrev cX11_fault : ByteArray := prog_1_method_5_code
def yX11_fault : MethodName := ⟨RX11, "fault", "()I"⟩
abbrev cX11_person : ByteArray := prog_1_method_6_code
def yX11_person : MethodName := ⟨RX11, "person", "(II)I"⟩
abbrev cX11_plate : ByteArray := prog_1_method_7_code
def yX11_plate : MethodName := ⟨RX11, "plate", "(II)I"⟩
abbrev cX11_dish : ByteArray := prog_1_method_8_code
def yX11_dish : MethodName := ⟨RX11, "dish", "(II)I"⟩
abbrev cX11_now : ByteArray := prog_1_method_9_code
def yX11_now : MethodName := ⟨RX11, "now", "(I)I"⟩
abbrev cX11_count : ByteArray := prog_1_method_10_code
def yX11_count : MethodName := ⟨RX11, "count", "(I)I"⟩
abbrev cX11_eat : ByteArray := prog_1_method_11_code
def yX11_eat : MethodName := ⟨RX11, "eat", "(III)I"⟩
abbrev cX11_serve : ByteArray := prog_1_method_12_code
def yX11_serve : MethodName := ⟨RX11, "serve", "(III)I"⟩
abbrev cX11_rise : ByteArray := prog_1_method_13_code
def yX11_rise : MethodName := ⟨RX11, "rise", "(I)I"⟩
abbrev cX11_refuse : ByteArray := prog_1_method_14_code
def yX11_refuse : MethodName := ⟨RX11, "refuse", "(I)I"⟩
abbrev cX11_accept : ByteArray := prog_1_method_15_code
def yX11_accept : MethodName := ⟨RX11, "accept", "(I)I"⟩
abbrev cX11_die : ByteArray := prog_1_method_16_code
def yX11_die : MethodName := ⟨RX11, "die", "(I)I"⟩
abbrev cX11_meals : ByteArray := prog_1_method_17_code
def yX11_meals : MethodName := ⟨RX11, "meals", "(I)I"⟩
abbrev cX11_undo : ByteArray := prog_1_method_18_code
def yX11_undo : MethodName := ⟨RX11, "undo", "()I"⟩
abbrev cX11_keptIfDone : ByteArray := prog_1_method_19_code
def yX11_keptIfDone : MethodName := ⟨RX11, "keptIfDone", "(I)I"⟩
abbrev cX11_keptIfAny : ByteArray := prog_1_method_20_code
def yX11_keptIfAny : MethodName := ⟨RX11, "keptIfAny", "(I)I"⟩
abbrev cX11_heir : ByteArray := prog_1_method_21_code
def yX11_heir : MethodName := ⟨RX11, "heir", "(I)I"⟩
abbrev cX11_line : ByteArray := prog_1_method_22_code
def yX11_line : MethodName := ⟨RX11, "line", "(II)I"⟩
abbrev cX11_order : ByteArray := prog_1_method_23_code
def yX11_order : MethodName := ⟨RX11, "order", "()I"⟩
abbrev cX11_orderAt : ByteArray := prog_1_method_24_code
def yX11_orderAt : MethodName := ⟨RX11, "orderAt", "(I)I"⟩
abbrev cX11_eaters : ByteArray := prog_1_method_25_code
def yX11_eaters : MethodName := ⟨RX11, "eaters", "()I"⟩
abbrev cX11_surely : ByteArray := prog_1_method_26_code
def yX11_surely : MethodName := ⟨RX11, "surely", "()I"⟩
abbrev cX11_ask : ByteArray := prog_1_method_27_code
def yX11_ask : MethodName := ⟨RX11, "ask", "()I"⟩
abbrev cX11_share : ByteArray := prog_1_method_28_code
def yX11_share : MethodName := ⟨RX11, "share", "(III)I"⟩
abbrev cX11_last : ByteArray := prog_1_method_29_code
def yX11_last : MethodName := ⟨RX11, "last", "(I)I"⟩
abbrev cX11_seats : ByteArray := prog_1_method_30_code
def yX11_seats : MethodName := ⟨RX11, "seats", "()I"⟩
abbrev cX11_seatAt : ByteArray := prog_1_method_31_code
def yX11_seatAt : MethodName := ⟨RX11, "seatAt", "(I)I"⟩
abbrev cX11_left : ByteArray := prog_1_method_32_code
def yX11_left : MethodName := ⟨RX11, "left", "(I)I"⟩
abbrev cX11_kin : ByteArray := prog_1_method_33_code
def yX11_kin : MethodName := ⟨RX11, "kin", "(II)I"⟩
abbrev cX11_hungriest : ByteArray := prog_1_method_34_code
def yX11_hungriest : MethodName := ⟨RX11, "hungriest", "()I"⟩
abbrev cX11_will : ByteArray := prog_1_method_35_code
def yX11_will : MethodName := ⟨RX11, "will", "(I)I"⟩
abbrev cX11_byteAt : ByteArray := prog_1_method_36_code
def yX11_byteAt : MethodName := ⟨RX11, "byteAt", "(I)I"⟩
abbrev cX11_writeByte : ByteArray := prog_1_method_37_code
def yX11_writeByte : MethodName := ⟨RX11, "writeByte", "(I)V"⟩
abbrev cX11_write : ByteArray := prog_1_method_38_code
def yX11_write : MethodName := ⟨RX11, "write", "(Ljava/lang/String;)V"⟩
abbrev cX11_writeNumber : ByteArray := prog_1_method_39_code
def yX11_writeNumber : MethodName := ⟨RX11, "writeNumber", "(I)V"⟩
abbrev cX11_writeName : ByteArray := prog_1_method_40_code
def yX11_writeName : MethodName := ⟨RX11, "writeName", "(J)V"⟩
abbrev cX11_drawn : ByteArray := prog_1_method_41_code
def yX11_drawn : MethodName := ⟨RX11, "drawn", "(II)I"⟩
abbrev cX11_odds : ByteArray := prog_1_method_42_code
def yX11_odds : MethodName := ⟨RX11, "odds", "(III)I"⟩
abbrev cX11_book : ByteArray := prog_1_method_43_code
def yX11_book : MethodName := ⟨RX11, "book", "(I)I"⟩
abbrev cX11_told : ByteArray := prog_1_method_44_code
def yX11_told : MethodName := ⟨RX11, "told", "(I)I"⟩
abbrev cX11_sentence : ByteArray := prog_1_method_45_code
def yX11_sentence : MethodName := ⟨RX11, "sentence", "()I"⟩
abbrev cX11_said : ByteArray := prog_1_method_46_code
def yX11_said : MethodName := ⟨RX11, "said", "(I)I"⟩
abbrev cX11_image : ByteArray := prog_1_method_47_code
def yX11_image : MethodName := ⟨RX11, "image", "(I)Z"⟩
abbrev cX11_restore : ByteArray := prog_1_method_48_code
def yX11_restore : MethodName := ⟨RX11, "restore", "(I)Z"⟩
def RX12 : String := "SecondHelpingsModel"
def TX12 : u_T := fun k => match k with
  | 0 => ("SecondHelpingsModel", "thrown", "I", false)
  | 1 => ("SecondHelpingsModel", "tape", "[I", true)
  | 2 => ("SecondHelpingsModel", "taped", "I", false)
  | 3 => ("SecondHelpingsModel", "size", "I", false)
  | 4 => ("SecondHelpingsModel", "limit", "I", false)
  | 5 => ("SecondHelpingsModel", "to", "I", false)
  | 6 => ("SecondHelpingsModel", "from", "I", false)
  | 7 => ("SecondHelpingsModel", "kind", "I", false)
  | 8 => ("SecondHelpingsModel", "number", "I", false)
  | 9 => ("SecondHelpingsModel", "sign", "I", false)
  | 10 => ("SecondHelpingsModel", "fault", "I", false)
  | 11 => ("SecondHelpingsModel", "place", "I", false)
  | 12 => ("SecondHelpingsModel", "word", "J", false)
  | 13 => ("SecondHelpingsModel", "told", "I", false)
  | 14 => ("SecondHelpingsModel", "now", "[I", true)
  | 15 => ("SecondHelpingsModel", "read", "[I", true)
  | 16 => ("SecondHelpingsModel", "kept", "[I", true)
  | 17 => ("SecondHelpingsModel", "snaps", "[I", true)
  | 18 => ("SecondHelpingsModel", "aside", "[I", true)
  | 19 => ("SecondHelpingsModel", "name", "[J", true)
  | 20 => ("SecondHelpingsModel", "readName", "[J", true)
  | 21 => ("SecondHelpingsModel", "keptName", "[J", true)
  | 22 => ("SecondHelpingsModel", "isKept", "[Z", true)
  | 23 => ("SecondHelpingsModel", "snapMany", "I", false)
  | 24 => ("SecondHelpingsModel", "hasLaw", "Z", false)
  | 25 => ("SecondHelpingsModel", "hasDogs", "Z", false)
  | 26 => ("SecondHelpingsModel", "order", "[I", true)
  | 27 => ("SecondHelpingsModel", "ordered", "[I", true)
  | 28 => ("SecondHelpingsModel", "held", "[I", true)
  | 29 => ("SecondHelpingsModel", "orderMany", "I", false)
  | 30 => ("SecondHelpingsModel", "leastWants", "I", false)
  | 31 => ("SecondHelpingsModel", "inSets", "[I", true)
  | 32 => ("SecondHelpingsModel", "surely", "I", false)
  | 33 => ("SecondHelpingsModel", "asked", "I", false)
  | 34 => ("SecondHelpingsModel", "wins", "[Z", true)
  | 35 => ("SecondHelpingsModel", "seat", "[I", true)
  | 36 => ("SecondHelpingsModel", "seated", "[I", true)
  | 37 => ("SecondHelpingsModel", "seatMany", "I", false)
  | 38 => ("SecondHelpingsModel", "seatMost", "I", false)
  | 39 => ("SecondHelpingsModel", "text", "[I", true)
  | 40 => ("SecondHelpingsModel", "texts", "I", false)
  | 41 => ("SecondHelpingsModel", "seed", "I", false)
  | 42 => ("SecondHelpingsModel", "row", "[I", true)
  | 43 => ("SecondHelpingsModel", "written", "[I", true)
  | 44 => ("SecondHelpingsModel", "lineMany", "I", false)
  | 45 => ("SecondHelpingsModel", "hasWritten", "Z", false)
  | 46 => ("SecondHelpingsModel", "node", "[I", true)
  | 47 => ("SecondHelpingsModel", "nodes", "I", false)
  | 48 => ("SecondHelpingsModel", "onesMany", "I", false)
  | 49 => ("SecondHelpingsModel", "within", "I", false)
  | _ => ("SecondHelpingsModel", "top", "I", false)
def tyX12 : Nat → FieldType := fun k => match k with
  | 0 => .int
  | 1 => .array .int
  | 2 => .int
  | 3 => .int
  | 4 => .int
  | 5 => .int
  | 6 => .int
  | 7 => .int
  | 8 => .int
  | 9 => .int
  | 10 => .int
  | 11 => .int
  | 12 => .long
  | 13 => .int
  | 14 => .array .int
  | 15 => .array .int
  | 16 => .array .int
  | 17 => .array .int
  | 18 => .array .int
  | 19 => .array .long
  | 20 => .array .long
  | 21 => .array .long
  | 22 => .array .boolean
  | 23 => .int
  | 24 => .boolean
  | 25 => .boolean
  | 26 => .array .int
  | 27 => .array .int
  | 28 => .array .int
  | 29 => .int
  | 30 => .int
  | 31 => .array .int
  | 32 => .int
  | 33 => .int
  | 34 => .array .boolean
  | 35 => .array .int
  | 36 => .array .int
  | 37 => .int
  | 38 => .int
  | 39 => .array .int
  | 40 => .int
  | 41 => .int
  | 42 => .array .int
  | 43 => .array .int
  | 44 => .int
  | 45 => .boolean
  | 46 => .array .int
  | 47 => .int
  | 48 => .int
  | 49 => .int
  | _ => .int
theorem nmX12 : ∀ a, a < 51 → ∀ b, b < 51 → a ≠ b → (TX12 a).2.1 ≠ (TX12 b).2.1 := by decide +kernel
theorem tyX12_ok : ∀ k, k < 51 → parseFieldDescriptor (TX12 k).2.2.1 = some (tyX12 k) := by decide +kernel
abbrev cX12_init : ByteArray := prog_14_method_1_code
def yX12_init : MethodName := ⟨RX12, "<init>", "()V"⟩
abbrev cX12_thrown : ByteArray := prog_14_method_2_code
def yX12_thrown : MethodName := ⟨RX12, "thrown", "()I"⟩
abbrev cX12_refuse : ByteArray := prog_14_method_3_code
def yX12_refuse : MethodName := ⟨RX12, "refuse", "()I"⟩
abbrev cX12_come : ByteArray := prog_14_method_4_code
def yX12_come : MethodName := ⟨RX12, "come", "(I)V"⟩
abbrev cX12_feed : ByteArray := prog_14_method_5_code
def yX12_feed : MethodName := ⟨RX12, "feed", "(IIIII)I"⟩
abbrev cX12_end : ByteArray := prog_14_method_6_code
def yX12_end : MethodName := ⟨RX12, "end", "(I)Z"⟩
abbrev cX12_take : ByteArray := prog_14_method_7_code
def yX12_take : MethodName := ⟨RX12, "take", "()I"⟩
abbrev cX12_isIn : ByteArray := prog_14_method_8_code
def yX12_isIn : MethodName := ⟨RX12, "isIn", "(III)Z"⟩
abbrev cX12_has : ByteArray := prog_14_method_9_code
def yX12_has : MethodName := ⟨RX12, "has", "(II)Z"⟩
abbrev cX12_bits : ByteArray := prog_14_method_10_code
def yX12_bits : MethodName := ⟨RX12, "bits", "(I)I"⟩
abbrev cX12_least : ByteArray := prog_14_method_11_code
def yX12_least : MethodName := ⟨RX12, "least", "(II)I"⟩
abbrev cX12_size : ByteArray := prog_14_method_12_code
def yX12_size : MethodName := ⟨RX12, "size", "(I)I"⟩
abbrev cX12_tapeAt : ByteArray := prog_14_method_14_code
def yX12_tapeAt : MethodName := ⟨RX12, "tapeAt", "(I)I"⟩
abbrev cX12_isDigit : ByteArray := prog_14_method_15_code
def yX12_isDigit : MethodName := ⟨RX12, "isDigit", "(I)Z"⟩
abbrev cX12_isLetter : ByteArray := prog_14_method_16_code
def yX12_isLetter : MethodName := ⟨RX12, "isLetter", "(I)Z"⟩
abbrev cX12_go : ByteArray := prog_14_method_17_code
def yX12_go : MethodName := ⟨RX12, "go", "()V"⟩
abbrev cX12_spelt : ByteArray := prog_14_method_18_code
def yX12_spelt : MethodName := ⟨RX12, "spelt", "(IIIIIII)J"⟩
abbrev cX12_wordOf : ByteArray := prog_14_method_19_code
def yX12_wordOf : MethodName := ⟨RX12, "wordOf", "(I)J"⟩
abbrev cX12_isWord : ByteArray := prog_14_method_20_code
def yX12_isWord : MethodName := ⟨RX12, "isWord", "(I)Z"⟩
abbrev cX12_isSign : ByteArray := prog_14_method_21_code
def yX12_isSign : MethodName := ⟨RX12, "isSign", "(I)Z"⟩
abbrev cX12_isName : ByteArray := prog_14_method_22_code
def yX12_isName : MethodName := ⟨RX12, "isName", "()Z"⟩
abbrev cX12_bad : ByteArray := prog_14_method_23_code
def yX12_bad : MethodName := ⟨RX12, "bad", "(I)Z"⟩
abbrev cX12_readNumber : ByteArray := prog_14_method_24_code
def yX12_readNumber : MethodName := ⟨RX12, "readNumber", "(II)Z"⟩
abbrev cX12_readEnd : ByteArray := prog_14_method_25_code
def yX12_readEnd : MethodName := ⟨RX12, "readEnd", "()Z"⟩
abbrev cX12_begin : ByteArray := prog_14_method_26_code
def yX12_begin : MethodName := ⟨RX12, "begin", "(I)V"⟩
abbrev cX12_startSo : ByteArray := prog_14_method_27_code
def yX12_startSo : MethodName := ⟨RX12, "startSo", "()V"⟩
abbrev cX12_findIn : ByteArray := prog_14_method_28_code
def yX12_findIn : MethodName := ⟨RX12, "findIn", "([JIIJ)I"⟩
abbrev cX12_readNew : ByteArray := prog_14_method_29_code
def yX12_readNew : MethodName := ⟨RX12, "readNew", "(I)Z"⟩
abbrev cX12_isOne : ByteArray := prog_14_method_30_code
def yX12_isOne : MethodName := ⟨RX12, "isOne", "(II)Z"⟩
abbrev cX12_readOne : ByteArray := prog_14_method_31_code
def yX12_readOne : MethodName := ⟨RX12, "readOne", "(II)Z"⟩
abbrev cX12_readFirst : ByteArray := prog_14_method_32_code
def yX12_readFirst : MethodName := ⟨RX12, "readFirst", "(II)Z"⟩
abbrev cX12_put : ByteArray := prog_14_method_33_code
def yX12_put : MethodName := ⟨RX12, "put", "(IZ)Z"⟩
abbrev cX12_readPerson : ByteArray := prog_14_method_34_code
def yX12_readPerson : MethodName := ⟨RX12, "readPerson", "()Z"⟩
abbrev cX12_readDish : ByteArray := prog_14_method_35_code
def yX12_readDish : MethodName := ⟨RX12, "readDish", "()Z"⟩
abbrev cX12_readPlate : ByteArray := prog_14_method_36_code
def yX12_readPlate : MethodName := ⟨RX12, "readPlate", "()Z"⟩
abbrev cX12_readLaw : ByteArray := prog_14_method_37_code
def yX12_readLaw : MethodName := ⟨RX12, "readLaw", "()Z"⟩
abbrev cX12_readLine : ByteArray := prog_14_method_38_code
def yX12_readLine : MethodName := ⟨RX12, "readLine", "()Z"⟩
abbrev cX12_table : ByteArray := prog_14_method_39_code
def yX12_table : MethodName := ⟨RX12, "table", "()I"⟩
abbrev cX12_fault : ByteArray := prog_14_method_40_code
def yX12_fault : MethodName := ⟨RX12, "fault", "()I"⟩
abbrev cX12_isPerson : ByteArray := prog_14_method_41_code
def yX12_isPerson : MethodName := ⟨RX12, "isPerson", "(I)Z"⟩
abbrev cX12_isDish : ByteArray := prog_14_method_42_code
def yX12_isDish : MethodName := ⟨RX12, "isDish", "(I)Z"⟩
abbrev cX12_isDead : ByteArray := prog_14_method_43_code
def yX12_isDead : MethodName := ⟨RX12, "isDead", "(I)Z"⟩
abbrev cX12_onPlate : ByteArray := prog_14_method_44_code
def yX12_onPlate : MethodName := ⟨RX12, "onPlate", "(II)I"⟩
abbrev cX12_plateOf : ByteArray := prog_14_method_45_code
def yX12_plateOf : MethodName := ⟨RX12, "plateOf", "(I)I"⟩
abbrev cX12_wantsYet : ByteArray := prog_14_method_46_code
def yX12_wantsYet : MethodName := ⟨RX12, "wantsYet", "(I)I"⟩
abbrev cX12_person : ByteArray := prog_14_method_47_code
def yX12_person : MethodName := ⟨RX12, "person", "(II)I"⟩
abbrev cX12_plate : ByteArray := prog_14_method_48_code
def yX12_plate : MethodName := ⟨RX12, "plate", "(II)I"⟩
abbrev cX12_dish : ByteArray := prog_14_method_49_code
def yX12_dish : MethodName := ⟨RX12, "dish", "(II)I"⟩
abbrev cX12_sumOf : ByteArray := prog_14_method_50_code
def yX12_sumOf : MethodName := ⟨RX12, "sumOf", "(I)I"⟩
abbrev cX12_now : ByteArray := prog_14_method_51_code
def yX12_now : MethodName := ⟨RX12, "now", "(I)I"⟩
abbrev cX12_nextTo : ByteArray := prog_14_method_52_code
def yX12_nextTo : MethodName := ⟨RX12, "nextTo", "(II)I"⟩
abbrev cX12_heirBy : ByteArray := prog_14_method_53_code
def yX12_heirBy : MethodName := ⟨RX12, "heirBy", "(II)I"⟩
abbrev cX12_outs : ByteArray := prog_14_method_54_code
def yX12_outs : MethodName := ⟨RX12, "outs", "()I"⟩
abbrev cX12_pass : ByteArray := prog_14_method_55_code
def yX12_pass : MethodName := ⟨RX12, "pass", "(I)V"⟩
abbrev cX12_heir : ByteArray := prog_14_method_56_code
def yX12_heir : MethodName := ⟨RX12, "heir", "(I)I"⟩
abbrev cX12_line : ByteArray := prog_14_method_57_code
def yX12_line : MethodName := ⟨RX12, "line", "(II)I"⟩
abbrev cX12_snap : ByteArray := prog_14_method_58_code
def yX12_snap : MethodName := ⟨RX12, "snap", "()V"⟩
abbrev cX12_why : ByteArray := prog_14_method_59_code
def yX12_why : MethodName := ⟨RX12, "why", "(IIII)I"⟩
abbrev cX12_doEat : ByteArray := prog_14_method_60_code
def yX12_doEat : MethodName := ⟨RX12, "doEat", "(III)V"⟩
abbrev cX12_live : ByteArray := prog_14_method_61_code
def yX12_live : MethodName := ⟨RX12, "live", "(IIII)V"⟩
abbrev cX12_act : ByteArray := prog_14_method_62_code
def yX12_act : MethodName := ⟨RX12, "act", "(IIII)I"⟩
abbrev cX12_eat : ByteArray := prog_14_method_63_code
def yX12_eat : MethodName := ⟨RX12, "eat", "(III)I"⟩
abbrev cX12_serve : ByteArray := prog_14_method_64_code
def yX12_serve : MethodName := ⟨RX12, "serve", "(III)I"⟩
abbrev cX12_rise : ByteArray := prog_14_method_65_code
def yX12_rise : MethodName := ⟨RX12, "rise", "(I)I"⟩
abbrev cX12_refuse_ : ByteArray := prog_14_method_66_code
def yX12_refuse_ : MethodName := ⟨RX12, "refuse", "(I)I"⟩
abbrev cX12_accept : ByteArray := prog_14_method_67_code
def yX12_accept : MethodName := ⟨RX12, "accept", "(I)I"⟩
abbrev cX12_die : ByteArray := prog_14_method_68_code
def yX12_die : MethodName := ⟨RX12, "die", "(I)I"⟩
abbrev cX12_undo : ByteArray := prog_14_method_69_code
def yX12_undo : MethodName := ⟨RX12, "undo", "()I"⟩
abbrev cX12_oneMeal : ByteArray := prog_14_method_70_code
def yX12_oneMeal : MethodName := ⟨RX12, "oneMeal", "()V"⟩
abbrev cX12_passMeals : ByteArray := prog_14_method_71_code
def yX12_passMeals : MethodName := ⟨RX12, "passMeals", "(I)I"⟩
abbrev cX12_meals : ByteArray := prog_14_method_72_code
def yX12_meals : MethodName := ⟨RX12, "meals", "(I)I"⟩
abbrev cX12_eatsAll : ByteArray := prog_14_method_73_code
def yX12_eatsAll : MethodName := ⟨RX12, "eatsAll", "(I)V"⟩
abbrev cX12_orderFrom : ByteArray := prog_14_method_74_code
def yX12_orderFrom : MethodName := ⟨RX12, "orderFrom", "(II)V"⟩
abbrev cX12_living : ByteArray := prog_14_method_75_code
def yX12_living : MethodName := ⟨RX12, "living", "()I"⟩
abbrev cX12_order : ByteArray := prog_14_method_76_code
def yX12_order : MethodName := ⟨RX12, "order", "()I"⟩
abbrev cX12_orderAt : ByteArray := prog_14_method_77_code
def yX12_orderAt : MethodName := ⟨RX12, "orderAt", "(I)I"⟩
abbrev cX12_eaters : ByteArray := prog_14_method_78_code
def yX12_eaters : MethodName := ⟨RX12, "eaters", "()I"⟩
abbrev cX12_surely : ByteArray := prog_14_method_79_code
def yX12_surely : MethodName := ⟨RX12, "surely", "()I"⟩
abbrev cX12_ask : ByteArray := prog_14_method_80_code
def yX12_ask : MethodName := ⟨RX12, "ask", "()I"⟩
abbrev cX12_share : ByteArray := prog_14_method_81_code
def yX12_share : MethodName := ⟨RX12, "share", "(III)I"⟩
abbrev cX12_last : ByteArray := prog_14_method_82_code
def yX12_last : MethodName := ⟨RX12, "last", "(I)I"⟩
abbrev cX12_seatFrom : ByteArray := prog_14_method_83_code
def yX12_seatFrom : MethodName := ⟨RX12, "seatFrom", "(III)V"⟩
abbrev cX12_seats : ByteArray := prog_14_method_84_code
def yX12_seats : MethodName := ⟨RX12, "seats", "()I"⟩
abbrev cX12_seatAt : ByteArray := prog_14_method_85_code
def yX12_seatAt : MethodName := ⟨RX12, "seatAt", "(I)I"⟩
abbrev cX12_layAside : ByteArray := prog_14_method_86_code
def yX12_layAside : MethodName := ⟨RX12, "layAside", "()V"⟩
abbrev cX12_takeBack : ByteArray := prog_14_method_87_code
def yX12_takeBack : MethodName := ⟨RX12, "takeBack", "()V"⟩
abbrev cX12_left : ByteArray := prog_14_method_88_code
def yX12_left : MethodName := ⟨RX12, "left", "(I)I"⟩
abbrev cX12_kin : ByteArray := prog_14_method_89_code
def yX12_kin : MethodName := ⟨RX12, "kin", "(II)I"⟩
abbrev cX12_hungriest : ByteArray := prog_14_method_90_code
def yX12_hungriest : MethodName := ⟨RX12, "hungriest", "()I"⟩
abbrev cX12_write : ByteArray := prog_14_method_91_code
def yX12_write : MethodName := ⟨RX12, "write", "(I)V"⟩
abbrev cX12_writeWord : ByteArray := prog_14_method_92_code
def yX12_writeWord : MethodName := ⟨RX12, "writeWord", "(J)V"⟩
abbrev cX12_writeNumber : ByteArray := prog_14_method_93_code
def yX12_writeNumber : MethodName := ⟨RX12, "writeNumber", "(I)V"⟩
abbrev cX12_writeNext : ByteArray := prog_14_method_94_code
def yX12_writeNext : MethodName := ⟨RX12, "writeNext", "(J)V"⟩
abbrev cX12_will : ByteArray := prog_14_method_95_code
def yX12_will : MethodName := ⟨RX12, "will", "(I)I"⟩
abbrev cX12_byteAt : ByteArray := prog_14_method_96_code
def yX12_byteAt : MethodName := ⟨RX12, "byteAt", "(I)I"⟩
abbrev cX12_draw : ByteArray := prog_14_method_97_code
def yX12_draw : MethodName := ⟨RX12, "draw", "(I)I"⟩
abbrev cX12_drawMeals : ByteArray := prog_14_method_98_code
def yX12_drawMeals : MethodName := ⟨RX12, "drawMeals", "(II)I"⟩
abbrev cX12_drawn : ByteArray := prog_14_method_99_code
def yX12_drawn : MethodName := ⟨RX12, "drawn", "(II)I"⟩
abbrev cX12_odds : ByteArray := prog_14_method_100_code
def yX12_odds : MethodName := ⟨RX12, "odds", "(III)I"⟩
abbrev cX12_readDoes : ByteArray := prog_14_method_101_code
def yX12_readDoes : MethodName := ⟨RX12, "readDoes", "(I)Z"⟩
abbrev cX12_readBookLine : ByteArray := prog_14_method_102_code
def yX12_readBookLine : MethodName := ⟨RX12, "readBookLine", "()Z"⟩
abbrev cX12_goBy : ByteArray := prog_14_method_103_code
def yX12_goBy : MethodName := ⟨RX12, "goBy", "(I)I"⟩
abbrev cX12_book : ByteArray := prog_14_method_104_code
def yX12_book : MethodName := ⟨RX12, "book", "(I)I"⟩
abbrev cX12_stay : ByteArray := prog_14_method_105_code
def yX12_stay : MethodName := ⟨RX12, "stay", "(Z)V"⟩
abbrev cX12_told : ByteArray := prog_14_method_106_code
def yX12_told : MethodName := ⟨RX12, "told", "(I)I"⟩
abbrev cX12_readNamed : ByteArray := prog_14_method_107_code
def yX12_readNamed : MethodName := ⟨RX12, "readNamed", "(II)Z"⟩
abbrev cX12_saysOne : ByteArray := prog_14_method_108_code
def yX12_saysOne : MethodName := ⟨RX12, "saysOne", "(IIII)I"⟩
abbrev cX12_readOr : ByteArray := prog_14_method_109_code
def yX12_readOr : MethodName := ⟨RX12, "readOr", "()Z"⟩
abbrev cX12_readAnd : ByteArray := prog_14_method_110_code
def yX12_readAnd : MethodName := ⟨RX12, "readAnd", "()Z"⟩
abbrev cX12_readSaid : ByteArray := prog_14_method_111_code
def yX12_readSaid : MethodName := ⟨RX12, "readSaid", "()Z"⟩
abbrev cX12_readNot : ByteArray := prog_14_method_112_code
def yX12_readNot : MethodName := ⟨RX12, "readNot", "()Z"⟩
abbrev cX12_readBracket : ByteArray := prog_14_method_113_code
def yX12_readBracket : MethodName := ⟨RX12, "readBracket", "()Z"⟩
abbrev cX12_readOf : ByteArray := prog_14_method_114_code
def yX12_readOf : MethodName := ⟨RX12, "readOf", "(I)Z"⟩
abbrev cX12_readCompare : ByteArray := prog_14_method_115_code
def yX12_readCompare : MethodName := ⟨RX12, "readCompare", "(I)Z"⟩
abbrev cX12_sentence : ByteArray := prog_14_method_116_code
def yX12_sentence : MethodName := ⟨RX12, "sentence", "()I"⟩
abbrev cX12_holds : ByteArray := prog_14_method_117_code
def yX12_holds : MethodName := ⟨RX12, "holds", "(II)Z"⟩
abbrev cX12_said : ByteArray := prog_14_method_118_code
def yX12_said : MethodName := ⟨RX12, "said", "(I)I"⟩
abbrev cX12_image : ByteArray := prog_14_method_119_code
def yX12_image : MethodName := ⟨RX12, "image", "(I)Z"⟩
abbrev cX12_restore : ByteArray := prog_14_method_120_code
def yX12_restore : MethodName := ⟨RX12, "restore", "(I)Z"⟩
abbrev cX12_count : ByteArray := prog_14_method_121_code
def yX12_count : MethodName := ⟨RX12, "count", "(I)I"⟩
def RJx145de : String := "java/io/Serializable"
def TJx145de : u_T := fun k => match k with
  | _ => ("", "", "", false)
def tyJx145de : Nat → FieldType := fun k => match k with
  | _ => .int
theorem nmJx145de : ∀ a, a < 0 → ∀ b, b < 0 → a ≠ b → (TJx145de a).2.1 ≠ (TJx145de b).2.1 := by decide +kernel
theorem tyJx145de_ok : ∀ k, k < 0 → parseFieldDescriptor (TJx145de k).2.2.1 = some (tyJx145de k) := by decide +kernel
def RJx9f9b0 : String := "java/lang/CharSequence"
def TJx9f9b0 : u_T := fun k => match k with
  | _ => ("", "", "", false)
def tyJx9f9b0 : Nat → FieldType := fun k => match k with
  | _ => .int
theorem nmJx9f9b0 : ∀ a, a < 0 → ∀ b, b < 0 → a ≠ b → (TJx9f9b0 a).2.1 ≠ (TJx9f9b0 b).2.1 := by decide +kernel
theorem tyJx9f9b0_ok : ∀ k, k < 0 → parseFieldDescriptor (TJx9f9b0 k).2.2.1 = some (tyJx9f9b0 k) := by decide +kernel
def RJxb160c : String := "java/lang/Comparable"
def TJxb160c : u_T := fun k => match k with
  | _ => ("", "", "", false)
def tyJxb160c : Nat → FieldType := fun k => match k with
  | _ => .int
theorem nmJxb160c : ∀ a, a < 0 → ∀ b, b < 0 → a ≠ b → (TJxb160c a).2.1 ≠ (TJxb160c b).2.1 := by decide +kernel
theorem tyJxb160c_ok : ∀ k, k < 0 → parseFieldDescriptor (TJxb160c k).2.2.1 = some (tyJxb160c k) := by decide +kernel
def RJ6 : String := "java/lang/Integer"
def TJ6 : u_T := fun k => match k with
  | _ => ("", "", "", false)
def tyJ6 : Nat → FieldType := fun k => match k with
  | _ => .int
theorem nmJ6 : ∀ a, a < 0 → ∀ b, b < 0 → a ≠ b → (TJ6 a).2.1 ≠ (TJ6 b).2.1 := by decide +kernel
theorem tyJ6_ok : ∀ k, k < 0 → parseFieldDescriptor (TJ6 k).2.2.1 = some (tyJ6 k) := by decide +kernel
abbrev cJ6_bitCount_0f7a4 : ByteArray := prog_19_method_49_code
def yJ6_bitCount_0f7a4 : MethodName := ⟨RJ6, "bitCount", "(I)I"⟩
def RJ9 : String := "java/lang/Math"
def TJ9 : u_T := fun k => match k with
  | _ => ("", "", "", false)
def tyJ9 : Nat → FieldType := fun k => match k with
  | _ => .int
theorem nmJ9 : ∀ a, a < 0 → ∀ b, b < 0 → a ≠ b → (TJ9 a).2.1 ≠ (TJ9 b).2.1 := by decide +kernel
theorem tyJ9_ok : ∀ k, k < 0 → parseFieldDescriptor (TJ9 k).2.2.1 = some (tyJ9 k) := by decide +kernel
abbrev cJ9_abs_0f7a4 : ByteArray := prog_20_method_59_code
def yJ9_abs_0f7a4 : MethodName := ⟨RJ9, "abs", "(I)I"⟩
abbrev cJ9_max_7cf53 : ByteArray := prog_20_method_65_code
def yJ9_max_7cf53 : MethodName := ⟨RJ9, "max", "(II)I"⟩
abbrev cJ9_min_7cf53 : ByteArray := prog_20_method_69_code
def yJ9_min_7cf53 : MethodName := ⟨RJ9, "min", "(II)I"⟩
def RJ0 : String := "java/lang/String"
def TJ0 : u_T := fun k => match k with
  | _ => ("", "", "", false)
def tyJ0 : Nat → FieldType := fun k => match k with
  | _ => .int
theorem nmJ0 : ∀ a, a < 0 → ∀ b, b < 0 → a ≠ b → (TJ0 a).2.1 ≠ (TJ0 b).2.1 := by decide +kernel
theorem tyJ0_ok : ∀ k, k < 0 → parseFieldDescriptor (TJ0 k).2.2.1 = some (tyJ0 k) := by decide +kernel
abbrev cJ0_length_8abf5 : ByteArray := prog_22_method_54_code
def yJ0_length_8abf5 : MethodName := ⟨RJ0, "length", "()I"⟩
abbrev cJ0_charAt_5068e : ByteArray := prog_22_method_56_code
def yJ0_charAt_5068e : MethodName := ⟨RJ0, "charAt", "(I)C"⟩
abbrev cJ0_coder_7d493 : ByteArray := prog_22_method_152_code
def yJ0_coder_7d493 : MethodName := ⟨RJ0, "coder", "()B"⟩
abbrev cJ0_isLatin1_aae02 : ByteArray := prog_22_method_154_code
def yJ0_isLatin1_aae02 : MethodName := ⟨RJ0, "isLatin1", "()Z"⟩
abbrev cJ0_checkIndex_df160 : ByteArray := prog_22_method_155_code
def yJ0_checkIndex_df160 : MethodName := ⟨RJ0, "checkIndex", "(II)V"⟩
def RJ1 : String := "java/lang/StringLatin1"
def TJ1 : u_T := fun k => match k with
  | _ => ("", "", "", false)
def tyJ1 : Nat → FieldType := fun k => match k with
  | _ => .int
theorem nmJ1 : ∀ a, a < 0 → ∀ b, b < 0 → a ≠ b → (TJ1 a).2.1 ≠ (TJ1 b).2.1 := by decide +kernel
theorem tyJ1_ok : ∀ k, k < 0 → parseFieldDescriptor (TJ1 k).2.2.1 = some (tyJ1 k) := by decide +kernel
abbrev cJ1_charAt_3b067 : ByteArray := prog_23_method_2_code
def yJ1_charAt_3b067 : MethodName := ⟨RJ1, "charAt", "([BI)C"⟩
def RJ2 : String := "java/lang/StringUTF16"
def TJ2 : u_T := fun k => match k with
  | _ => ("", "", "", false)
def tyJ2 : Nat → FieldType := fun k => match k with
  | _ => .int
theorem nmJ2 : ∀ a, a < 0 → ∀ b, b < 0 → a ≠ b → (TJ2 a).2.1 ≠ (TJ2 b).2.1 := by decide +kernel
theorem tyJ2_ok : ∀ k, k < 0 → parseFieldDescriptor (TJ2 k).2.2.1 = some (tyJ2 k) := by decide +kernel
abbrev cJ2_getChar_3b067 : ByteArray := prog_24_method_5_code
def yJ2_getChar_3b067 : MethodName := ⟨RJ2, "getChar", "([BI)C"⟩
abbrev cJ2_length_9d52b : ByteArray := prog_24_method_6_code
def yJ2_length_9d52b : MethodName := ⟨RJ2, "length", "([B)I"⟩
abbrev cJ2_charAt_3b067 : ByteArray := prog_24_method_83_code
def yJ2_charAt_3b067 : MethodName := ⟨RJ2, "charAt", "([BI)C"⟩
abbrev cJ2_checkIndex_2214a : ByteArray := prog_24_method_91_code
def yJ2_checkIndex_2214a : MethodName := ⟨RJ2, "checkIndex", "(I[B)V"⟩
def RJ10 : String := "java/lang/System"
def TJ10 : u_T := fun k => match k with
  | _ => ("", "", "", false)
def tyJ10 : Nat → FieldType := fun k => match k with
  | _ => .int
theorem nmJ10 : ∀ a, a < 0 → ∀ b, b < 0 → a ≠ b → (TJ10 a).2.1 ≠ (TJ10 b).2.1 := by decide +kernel
theorem tyJ10_ok : ∀ k, k < 0 → parseFieldDescriptor (TJ10 k).2.2.1 = some (tyJ10 k) := by decide +kernel
def RJxfd54e : String := "java/lang/constant/Constable"
def TJxfd54e : u_T := fun k => match k with
  | _ => ("", "", "", false)
def tyJxfd54e : Nat → FieldType := fun k => match k with
  | _ => .int
theorem nmJxfd54e : ∀ a, a < 0 → ∀ b, b < 0 → a ≠ b → (TJxfd54e a).2.1 ≠ (TJxfd54e b).2.1 := by decide +kernel
theorem tyJxfd54e_ok : ∀ k, k < 0 → parseFieldDescriptor (TJxfd54e k).2.2.1 = some (tyJxfd54e k) := by decide +kernel
def RJx3cf43 : String := "java/lang/constant/ConstantDesc"
def TJx3cf43 : u_T := fun k => match k with
  | _ => ("", "", "", false)
def tyJx3cf43 : Nat → FieldType := fun k => match k with
  | _ => .int
theorem nmJx3cf43 : ∀ a, a < 0 → ∀ b, b < 0 → a ≠ b → (TJx3cf43 a).2.1 ≠ (TJx3cf43 b).2.1 := by decide +kernel
theorem tyJx3cf43_ok : ∀ k, k < 0 → parseFieldDescriptor (TJx3cf43 k).2.2.1 = some (tyJx3cf43 k) := by decide +kernel
def RJ3 : String := "jdk/internal/util/Preconditions"
def TJ3 : u_T := fun k => match k with
  | _ => ("", "", "", false)
def tyJ3 : Nat → FieldType := fun k => match k with
  | _ => .int
theorem nmJ3 : ∀ a, a < 0 → ∀ b, b < 0 → a ≠ b → (TJ3 a).2.1 ≠ (TJ3 b).2.1 := by decide +kernel
theorem tyJ3_ok : ∀ k, k < 0 → parseFieldDescriptor (TJ3 k).2.2.1 = some (tyJ3 k) := by decide +kernel
abbrev cJ3_checkIndex_8e157 : ByteArray := prog_30_method_11_code
def yJ3_checkIndex_8e157 : MethodName := ⟨RJ3, "checkIndex", "(IILjava/util/function/BiFunction;)I"⟩
def RL : String := "SecondHelpingsLaw"
abbrev cL_person : ByteArray := method_3_code
def yL_person : MethodName := ⟨RL, "person", "(LSecondHelpings;II[J)I"⟩
abbrev cL_law : ByteArray := code
def yL_law : MethodName := ⟨RL, "law", "([I)Z"⟩
abbrev vwCl : List vw_C := [(RX0, TX0, 10), (RX1, TX1, 14), (RX2, TX2, 3), (RX3, TX3, 4), (RX4, TX4, 5), (RX5, TX5, 3), (RX6, TX6, 2), (RX7, TX7, 6), (RX8, TX8, 9), (RX9, TX9, 4), (RX10, TX10, 13), (RX11, TX11, 15), (RX12, TX12, 51)]
end
section
/-! flat memory: ints I, longs J, references R, by address and place; a kind κ and a length ln for each address of the pool L -/
def GT : List Cond := lw_tbl.filter goodWord
theorem gt_in {w : Cond} (i : Nat) (h : lw_tbl[i]? = some w) (g : goodWord w = true) : w ∈ GT := List.mem_filter.mpr ⟨List.mem_of_getElem? h, g⟩
theorem gt_good {w : Cond} (h : w ∈ GT) : (w.onTables && w.keeps) = true ∨ ∃ ty, w = .arrayClass ty := good_of_word (List.mem_filter.mp h).2
theorem gt_gi {c : Cond} {ws : List Cond} (h : ∀ w ∈ ws, w ∈ GT) : GoodIn (c :: GT) ws := fun w hw => ⟨List.mem_cons_of_mem _ (h w hw), gt_good (h w hw)⟩
theorem gt_tbl {w : Cond} (h : w ∈ GT) : w ∈ lw_tbl := (List.mem_filter.mp h).1
theorem gt_gl {ws : List Cond} (h : ∀ w ∈ ws, w ∈ GT) : GoodIn lw_tbl ws := fun w hw => ⟨gt_tbl (h w hw), gt_good (h w hw)⟩
theorem gt_c {c : Cond} (h : c ∈ GT) : ∀ w ∈ (c :: GT), w ∈ GT := fun w hw => (List.mem_cons.mp hw).elim (fun e => e ▸ h) id
def fk_ : List (List Nat) := [[2, 2, 2, 2, 0, 0, 0, 0, 0, 0], [2, 2, 2, 2, 2, 2, 2, 0, 0, 0, 0, 0, 0, 0], [2, 0, 0], [2, 2, 2, 0], [2, 2, 2, 0, 0], [2, 0, 0], [2, 0], [2, 2, 2, 2, 0, 0], [2, 2, 2, 2, 2, 0, 0, 0, 0], [2, 2, 0, 0], [2, 2, 2, 2, 2, 0, 0, 0, 0, 0, 1, 0, 0], [2, 2, 2, 2, 2, 2, 2, 2, 2, 2, 2, 2, 2, 2, 0], [0, 2, 0, 0, 0, 0, 0, 0, 0, 0, 0, 0, 1, 0, 2, 2, 2, 2, 2, 2, 2, 2, 2, 0, 0, 0, 2, 2, 2, 0, 0, 2, 0, 0, 2, 2, 2, 0, 0, 2, 0, 0, 2, 2, 0, 0, 2, 0, 0, 0, 0]]
def sv_ (I : Nat → Nat → Int32) (J : Nat → Nat → Int64) (R : Nat → Nat → Option Nat) (a k t : Nat) : Value := match t with
  | 0 => .int (I a k)
  | 1 => .long (J a k)
  | _ => va_rf (R a k)
def fs_ (I : Nat → Nat → Int32) (J : Nat → Nat → Int64) (R : Nat → Nat → Option Nat) (a : Nat) : Nat → List Nat → List Value
  | _, [] => []
  | k, t :: l => sv_ I J R a k t :: fs_ I J R a (k + 1) l
def u2_ {α : Type} (f : Nat → Nat → α) (a k : Nat) (v : α) : Nat → Nat → α := fun b j => if b = a ∧ j = k then v else f b j
theorem u2_s {α : Type} {f : Nat → Nat → α} {a k : Nat} {v : α} : u2_ f a k v a k = v := by simp [u2_]
theorem u2_j {α : Type} {f : Nat → Nat → α} {a k b j : Nat} {v : α} (h : j ≠ k) : u2_ f a k v b j = f b j := by simp [u2_, h]
theorem u2_b {α : Type} {f : Nat → Nat → α} {a k b j : Nat} {v : α} (h : b ≠ a) : u2_ f a k v b j = f b j := by simp [u2_, h]
theorem u2_k {α : Type} {κ : Nat → Nat} {f : Nat → Nat → α} {a k b j : Nat} {v : α} (h : κ b ≠ κ a) : u2_ f a k v b j = f b j := u2_b (fun e => h (by rw [e]))
theorem fs_len (I : Nat → Nat → Int32) (J : Nat → Nat → Int64) (R : Nat → Nat → Option Nat) (a : Nat) : ∀ (l : List Nat) (k0 : Nat), (fs_ I J R a k0 l).length = l.length
  | [], _ => rfl
  | t :: l, k0 => by simp [fs_, fs_len I J R a l (k0 + 1)]
theorem fs_get (I : Nat → Nat → Int32) (J : Nat → Nat → Int64) (R : Nat → Nat → Option Nat) (a : Nat) : ∀ (l : List Nat) (k0 k t : Nat), l[k]? = some t → (fs_ I J R a k0 l)[k]? = some (sv_ I J R a (k0 + k) t)
  | [], _, k, _, h => by simp at h
  | t0 :: l, k0, 0, t, h => by simp at h; subst h; simp [fs_]
  | t0 :: l, k0, k + 1, t, h => by
    have h2 : l[k]? = some t := by simpa using h
    have h3 := fs_get I J R a l (k0 + 1) k t h2
    simp only [fs_, List.getElem?_cons_succ]
    rw [h3, show k0 + 1 + k = k0 + (k + 1) by omega]
theorem fs_cong {I I' : Nat → Nat → Int32} {J J' : Nat → Nat → Int64} {R R' : Nat → Nat → Option Nat} {a : Nat} : ∀ (l : List Nat) (k0 : Nat), (∀ j, k0 ≤ j → I a j = I' a j ∧ J a j = J' a j ∧ R a j = R' a j) → fs_ I J R a k0 l = fs_ I' J' R' a k0 l
  | [], _, _ => rfl
  | t :: l, k0, h => by
    obtain ⟨h1, h2, h3⟩ := h k0 (Nat.le_refl _)
    simp only [fs_]
    rw [fs_cong l (k0 + 1) (fun j hj => h j (by omega))]
    congr 1
    simp only [sv_, h1, h2, h3]
theorem fs_setI {I : Nat → Nat → Int32} {J : Nat → Nat → Int64} {R : Nat → Nat → Option Nat} {a : Nat} {v : Int32} : ∀ (l : List Nat) (k0 k : Nat), l[k]? = some 0 → (fs_ I J R a k0 l).set k (.int v) = fs_ (u2_ I a (k0 + k) v) J R a k0 l
  | [], _, k, h => by simp at h
  | t0 :: l, k0, 0, h => by
    simp at h; subst h
    simp only [fs_, List.set_cons_zero, Nat.add_zero]
    rw [fs_cong (I := I) (I' := u2_ I a k0 v) (J' := J) (R' := R) l (k0 + 1) (fun j hj => ⟨(u2_j (by omega)).symm, rfl, rfl⟩)]
    simp [sv_, u2_s]
  | t0 :: l, k0, k + 1, h => by
    have h2 : l[k]? = some 0 := by simpa using h
    simp only [fs_, List.set_cons_succ]
    rw [fs_setI l (k0 + 1) k h2, show k0 + 1 + k = k0 + (k + 1) by omega]
    congr 1
    simp only [sv_, u2_j (f := I) (b := a) (show k0 ≠ k0 + (k + 1) by omega)]
theorem fs_setJ {I : Nat → Nat → Int32} {J : Nat → Nat → Int64} {R : Nat → Nat → Option Nat} {a : Nat} {v : Int64} : ∀ (l : List Nat) (k0 k : Nat), l[k]? = some 1 → (fs_ I J R a k0 l).set k (.long v) = fs_ I (u2_ J a (k0 + k) v) R a k0 l
  | [], _, k, h => by simp at h
  | t0 :: l, k0, 0, h => by
    simp at h; subst h
    simp only [fs_, List.set_cons_zero, Nat.add_zero]
    rw [fs_cong (I := I) (I' := I) (J := J) (J' := u2_ J a k0 v) (R' := R) l (k0 + 1) (fun j hj => ⟨rfl, (u2_j (by omega)).symm, rfl⟩)]
    simp [sv_, u2_s]
  | t0 :: l, k0, k + 1, h => by
    have h2 : l[k]? = some 1 := by simpa using h
    simp only [fs_, List.set_cons_succ]
    rw [fs_setJ l (k0 + 1) k h2, show k0 + 1 + k = k0 + (k + 1) by omega]
    congr 1
    simp only [sv_, u2_j (f := J) (b := a) (show k0 ≠ k0 + (k + 1) by omega)]
theorem fs_setR {I : Nat → Nat → Int32} {J : Nat → Nat → Int64} {R : Nat → Nat → Option Nat} {a : Nat} {v : Nat} : ∀ (l : List Nat) (k0 k : Nat), l[k]? = some 2 → (fs_ I J R a k0 l).set k (.ref v) = fs_ I J (u2_ R a (k0 + k) (some v)) a k0 l
  | [], _, k, h => by simp at h
  | t0 :: l, k0, 0, h => by
    simp at h; subst h
    simp only [fs_, List.set_cons_zero, Nat.add_zero]
    rw [fs_cong (I := I) (I' := I) (J := J) (J' := J) (R := R) (R' := u2_ R a k0 (some v)) l (k0 + 1) (fun j hj => ⟨rfl, rfl, (u2_j (by omega)).symm⟩)]
    simp [sv_, u2_s, va_rf]
  | t0 :: l, k0, k + 1, h => by
    have h2 : l[k]? = some 2 := by simpa using h
    simp only [fs_, List.set_cons_succ]
    rw [fs_setR l (k0 + 1) k h2, show k0 + 1 + k = k0 + (k + 1) by omega]
    congr 1
    simp only [sv_, u2_j (f := R) (b := a) (show k0 ≠ k0 + (k + 1) by omega)]
/-- the cell at an address, by its kind: 0 to 12 objects, 13 bytes, 14 ints, 15 longs, 16 booleans, 17 and 18 references -/
def cel_ (cy : Nat → ClassId) (κ ln : Nat → Nat) (R : Nat → Nat → Option Nat) (I : Nat → Nat → Int32) (J : Nat → Nat → Int64) (a : Nat) : va_E :=
  if κ a < 13 then .inr (κ a, fs_ I J R a 0 (fk_.getD (κ a) []))
  else if κ a = 15 then .inl (cy 15, ln a, .inr (.inl (J a)))
  else if κ a < 17 then .inl (cy (κ a), ln a, .inl (I a))
  else .inl (cy (κ a), ln a, .inr (.inr (.inr (.inr (R a)))))
def tys_ (cy : Nat → ClassId) : List (ClassId × FieldType) := [(cy 13, .byte), (cy 14, .int), (cy 15, .long), (cy 16, .boolean), (cy 17, .object RX1), (cy 18, .object RX3)]
theorem cel_o {cy : Nat → ClassId} {κ ln : Nat → Nat} {R : Nat → Nat → Option Nat} {I : Nat → Nat → Int32} {J : Nat → Nat → Int64} {a ci : Nat} (h : κ a = ci) (hc : ci < 13) : cel_ cy κ ln R I J a = .inr (ci, fs_ I J R a 0 (fk_.getD ci [])) := by
  unfold cel_; rw [h, if_pos hc]
theorem cel_i {cy : Nat → ClassId} {κ ln : Nat → Nat} {R : Nat → Nat → Option Nat} {I : Nat → Nat → Int32} {J : Nat → Nat → Int64} {a ci : Nat} (h : κ a = ci) (h1 : ci = 13 ∨ ci = 14 ∨ ci = 16) : cel_ cy κ ln R I J a = .inl (cy ci, ln a, .inl (I a)) := by
  unfold cel_; rw [h, if_neg (by omega), if_neg (by omega), if_pos (by omega)]
theorem cel_l {cy : Nat → ClassId} {κ ln : Nat → Nat} {R : Nat → Nat → Option Nat} {I : Nat → Nat → Int32} {J : Nat → Nat → Int64} {a : Nat} (h : κ a = 15) : cel_ cy κ ln R I J a = .inl (cy 15, ln a, .inr (.inl (J a))) := by
  unfold cel_; rw [h, if_neg (by omega), if_pos rfl]
theorem cel_r {cy : Nat → ClassId} {κ ln : Nat → Nat} {R : Nat → Nat → Option Nat} {I : Nat → Nat → Int32} {J : Nat → Nat → Int64} {a ci : Nat} (h : κ a = ci) (h1 : 17 ≤ ci) : cel_ cy κ ln R I J a = .inl (cy ci, ln a, .inr (.inr (.inr (.inr (R a))))) := by
  unfold cel_; rw [h, if_neg (by omega), if_neg (by omega), if_neg (by omega)]
theorem cel_cong {cy : Nat → ClassId} {κ κ' ln ln' : Nat → Nat} {R R' : Nat → Nat → Option Nat} {I I' : Nat → Nat → Int32} {J J' : Nat → Nat → Int64} {b : Nat} (h0 : κ b = κ' b) (h1 : ln b = ln' b) (hI : ∀ j, I b j = I' b j) (hJ : ∀ j, J b j = J' b j) (hR : ∀ j, R b j = R' b j) : cel_ cy κ ln R I J b = cel_ cy κ' ln' R' I' J' b := by
  unfold cel_
  rw [h0, h1, fs_cong (I' := I') (J' := J') (R' := R') (fk_.getD (κ' b) []) 0 (fun j _ => ⟨hI j, hJ j, hR j⟩), funext hI, funext hJ, funext hR]
end
section
/-! the walk over the flat memory -/
/-- the machine comes to Q from the frame with locals lo and operand stack st, over every heap that holds the pool -/
def WG (p : Program) (l : Launch) (e : Env) (Rm : Room) (s : State) (m : MethodId) (args : Array Value) (below : List Frame) (meth : Method) (c : Code) (nL cells slots : Nat) (Q : State → Prop) (D : va_G) (cy : Nat → ClassId) (A : Nat → Prop) (H0 : Heap) (L : List Nat) (κ ln : Nat → Nat) (R : Nat → Nat → Option Nat) (I : Nat → Nat → Int32) (J : Nat → Nat → Int64) (pc : Nat) (lo : List (Nat × Value)) (st : List Value) : Prop :=
  ∀ (H : Heap) (locs : List Loc) (ls : Array Slot), va_P D vwCl (va_pl L (cel_ cy κ ln R I J)) H → va_S A H0 H locs → lv_has ls nL lo → W p l e Rm s m args below meth c H locs cells slots Q (F0 m pc ls st)
/-- the pool's addresses are apart, all may be written, the tables are as the kinds say -/
def Wc_ (D : va_G) (cy : Nat → ClassId) (A : Nat → Prop) (L : List Nat) (s : State) : Prop := L.Nodup ∧ (∀ q ∈ L, A q) ∧ va_K D vwCl (tys_ cy) s
theorem nd_inj : ∀ {L : List Nat}, L.Nodup → ∀ (i j a : Nat), L[i]? = some a → L[j]? = some a → i = j
  | [], _, i, _, _, h, _ => by simp at h
  | b :: L, hn, 0, 0, _, _, _ => rfl
  | b :: L, hn, 0, j + 1, a, h1, h2 => by
    simp at h1 h2; subst h1
    exact absurd (List.mem_of_getElem? h2) (List.nodup_cons.mp hn).1
  | b :: L, hn, i + 1, 0, a, h1, h2 => by
    simp at h1 h2; subst h2
    exact absurd (List.mem_of_getElem? h1) (List.nodup_cons.mp hn).1
  | b :: L, hn, i + 1, j + 1, a, h1, h2 => by
    simp at h1 h2
    rw [nd_inj (List.nodup_cons.mp hn).2 i j a h1 h2]
theorem pl_D {A : Nat → Prop} {L : List Nat} (hn : L.Nodup) (hA : ∀ q ∈ L, A q) (f : Nat → va_E) : va_D A (va_pl L f) := by
  refine ⟨fun i j p q h1 h2 he => ?_, fun k q h => ?_⟩
  · simp only [va_pl, List.getElem?_map, Option.map_eq_some_iff] at h1 h2
    obtain ⟨a, h1, rfl⟩ := h1
    obtain ⟨b, h2, rfl⟩ := h2
    simp only at he
    subst he
    exact nd_inj hn i j a h1 h2
  · simp only [va_pl, List.getElem?_map, Option.map_eq_some_iff] at h
    obtain ⟨a, h, rfl⟩ := h
    exact hA a (List.mem_of_getElem? h)
theorem pl_at {L : List Nat} {f : Nat → va_E} {a : Nat} (h : a ∈ L) : ∃ k : Nat, (va_pl L f)[k]? = some (a, f a) := by
  have := va_pl_get (X := []) (f := f) h
  simpa using this
theorem pl_set {A : Nat → Prop} {L : List Nat} {f g : Nat → va_E} {a k : Nat} {x : va_E} (hD : va_D A (va_pl L f)) (h : a ∈ L) (hk : (va_pl L f)[k]? = some (a, f a)) (hg : ∀ b, va_up f a x b = g b) : (va_pl L f).set k (a, x) = va_pl L g := by
  have h1 := va_pl_set (X := []) (e := x) (by simpa using hD) h (by simpa using hk)
  have h2 : (va_pl L f).set k (a, x) = va_pl L (va_up f a x) := by simpa using h1
  rw [h2]
  exact va_pl_congr hg
/-- a field of class ci at place k, of kind t (0 int, 1 long, 2 reference), that the class own names by idx -/
def Fd_ (own : String) (idx ci k t : Nat) (Cn : String) (T : u_T) (N : Nat) : Prop := ci < 13 ∧ vwCl[ci]? = some (Cn, T, N) ∧ k < N ∧ (fk_.getD ci [])[k]? = some t ∧ (∀ w ∈ u_ws Cn T N, w ∈ GT) ∧ Cond.fieldLink own idx (T k).1 (T k).2.1 (T k).2.2.1 ∈ GT
/-- .. that may be written: its type ty; final or not -/
def Pd_ (T : u_T) (N k : Nat) (fin : Bool) (ty : FieldType) : Prop := (∃ ty0 : Nat → FieldType, ∀ k, k < N → parseFieldDescriptor (T k).2.2.1 = some (ty0 k)) ∧ (∀ a, a < N → ∀ b, b < N → a ≠ b → (T a).2.1 ≠ (T b).2.1) ∧ (T k).2.2.2 = fin ∧ parseFieldDescriptor (T k).2.2.1 = some ty
section GW
variable {p : Program} {l : Launch} {e : Env} {Rm : Room} {s : State} {m : MethodId} {args : Array Value} {below : List Frame} {meth : Method} {c : Code} {cells slots : Nat} {Q : State → Prop}
variable {cc : ByteArray} {pc nL : Nat} {own : String} {D : va_G} {cy : Nat → ClassId} {A : Nat → Prop} {H0 : Heap} {L : List Nat} {κ ln : Nat → Nat} {R : Nat → Nat → Option Nat} {I : Nat → Nat → Int32} {J : Nat → Nat → Int64} {lo lo2 : List (Nat × Value)} {st : List Value}
theorem g_iload_n (C : CallFix p m c cc nL s args GT own) {k : Fin 4} {i : Nat} {x : Int32} (q : Nat) (hd : decode cc pc = .ok (.iload_n k, 1)) (hi : (k : Nat) = i) (hq : lo[q]? = some (i, .int x)) (kk : WG p l e Rm s m args below meth c nL cells slots Q D cy A H0 L κ ln R I J (pc + 1) lo (.int x :: st)) : WG p l e Rm s m args below meth c nL cells slots Q D cy A H0 L κ ln R I J pc lo st := fun H locs ls hP hS hl => lv_iload_n C.1 C.2.1 hd hi (lv_at hl q hq) (kk H locs ls hP hS hl)
theorem g_iload (C : CallFix p m c cc nL s args GT own) {i : Nat} {x : Int32} (q : Nat) (hd : decode cc pc = .ok (.iload i, 2)) (hq : lo[q]? = some (i, .int x)) (kk : WG p l e Rm s m args below meth c nL cells slots Q D cy A H0 L κ ln R I J (pc + 2) lo (.int x :: st)) : WG p l e Rm s m args below meth c nL cells slots Q D cy A H0 L κ ln R I J pc lo st := fun H locs ls hP hS hl => lv_iload C.1 C.2.1 hd (lv_at hl q hq) (kk H locs ls hP hS hl)
theorem g_lload_n (C : CallFix p m c cc nL s args GT own) {k : Fin 4} {i : Nat} {x : Int64} (q : Nat) (hd : decode cc pc = .ok (.lload_n k, 1)) (hi : (k : Nat) = i) (hq : lo[q]? = some (i, .long x)) (kk : WG p l e Rm s m args below meth c nL cells slots Q D cy A H0 L κ ln R I J (pc + 1) lo (.long x :: st)) : WG p l e Rm s m args below meth c nL cells slots Q D cy A H0 L κ ln R I J pc lo st := fun H locs ls hP hS hl => lv_lload_n C.1 C.2.1 hd hi (lv_at hl q hq) (kk H locs ls hP hS hl)
theorem g_lload (C : CallFix p m c cc nL s args GT own) {i : Nat} {x : Int64} (q : Nat) (hd : decode cc pc = .ok (.lload i, 2)) (hq : lo[q]? = some (i, .long x)) (kk : WG p l e Rm s m args below meth c nL cells slots Q D cy A H0 L κ ln R I J (pc + 2) lo (.long x :: st)) : WG p l e Rm s m args below meth c nL cells slots Q D cy A H0 L κ ln R I J pc lo st := fun H locs ls hP hS hl => lv_lload C.1 C.2.1 hd (lv_at hl q hq) (kk H locs ls hP hS hl)
theorem g_aload_n (C : CallFix p m c cc nL s args GT own) {k : Fin 4} {i : Nat} {x : Nat} (q : Nat) (hd : decode cc pc = .ok (.aload_n k, 1)) (hi : (k : Nat) = i) (hq : lo[q]? = some (i, .ref x)) (kk : WG p l e Rm s m args below meth c nL cells slots Q D cy A H0 L κ ln R I J (pc + 1) lo (.ref x :: st)) : WG p l e Rm s m args below meth c nL cells slots Q D cy A H0 L κ ln R I J pc lo st := fun H locs ls hP hS hl => lv_aload_n C.1 C.2.1 hd hi (lv_at hl q hq) (kk H locs ls hP hS hl)
theorem g_aload (C : CallFix p m c cc nL s args GT own) {i : Nat} {x : Nat} (q : Nat) (hd : decode cc pc = .ok (.aload i, 2)) (hq : lo[q]? = some (i, .ref x)) (kk : WG p l e Rm s m args below meth c nL cells slots Q D cy A H0 L κ ln R I J (pc + 2) lo (.ref x :: st)) : WG p l e Rm s m args below meth c nL cells slots Q D cy A H0 L κ ln R I J pc lo st := fun H locs ls hP hS hl => lv_aload C.1 C.2.1 hd (lv_at hl q hq) (kk H locs ls hP hS hl)
theorem g_istore_n (C : CallFix p m c cc nL s args GT own) {k : Fin 4} {i : Nat} {x : Int32} (hd : decode cc pc = .ok (.istore_n k, 1)) (hi : (k : Nat) = i) (hn : i < nL) (hl2 : (i, Value.int x) :: lo.filter (fun q => !(q.1 == i) && !(q.1 + 1 == i && q.2.category == 2)) = lo2) (kk : WG p l e Rm s m args below meth c nL cells slots Q D cy A H0 L κ ln R I J (pc + 1) lo2 st) : WG p l e Rm s m args below meth c nL cells slots Q D cy A H0 L κ ln R I J pc lo (.int x :: st) := fun H locs ls hP hS hl => lv_istore_n C.1 C.2.1 hd hi hl hn hl2 (fun ls2 hl3 => kk H locs ls2 hP hS hl3)
theorem g_istore (C : CallFix p m c cc nL s args GT own) {i : Nat} {x : Int32} (hd : decode cc pc = .ok (.istore i, 2)) (hn : i < nL) (hl2 : (i, Value.int x) :: lo.filter (fun q => !(q.1 == i) && !(q.1 + 1 == i && q.2.category == 2)) = lo2) (kk : WG p l e Rm s m args below meth c nL cells slots Q D cy A H0 L κ ln R I J (pc + 2) lo2 st) : WG p l e Rm s m args below meth c nL cells slots Q D cy A H0 L κ ln R I J pc lo (.int x :: st) := fun H locs ls hP hS hl => lv_istore C.1 C.2.1 hd hl hn hl2 (fun ls2 hl3 => kk H locs ls2 hP hS hl3)
theorem g_astore_n (C : CallFix p m c cc nL s args GT own) {k : Fin 4} {i : Nat} {x : Nat} (hd : decode cc pc = .ok (.astore_n k, 1)) (hi : (k : Nat) = i) (hn : i < nL) (hl2 : (i, Value.ref x) :: lo.filter (fun q => !(q.1 == i) && !(q.1 + 1 == i && q.2.category == 2)) = lo2) (kk : WG p l e Rm s m args below meth c nL cells slots Q D cy A H0 L κ ln R I J (pc + 1) lo2 st) : WG p l e Rm s m args below meth c nL cells slots Q D cy A H0 L κ ln R I J pc lo (.ref x :: st) := fun H locs ls hP hS hl => lv_astore_n C.1 C.2.1 hd hi hl hn hl2 (fun ls2 hl3 => kk H locs ls2 hP hS hl3)
theorem g_astore (C : CallFix p m c cc nL s args GT own) {i : Nat} {x : Nat} (hd : decode cc pc = .ok (.astore i, 2)) (hn : i < nL) (hl2 : (i, Value.ref x) :: lo.filter (fun q => !(q.1 == i) && !(q.1 + 1 == i && q.2.category == 2)) = lo2) (kk : WG p l e Rm s m args below meth c nL cells slots Q D cy A H0 L κ ln R I J (pc + 2) lo2 st) : WG p l e Rm s m args below meth c nL cells slots Q D cy A H0 L κ ln R I J pc lo (.ref x :: st) := fun H locs ls hP hS hl => lv_astore C.1 C.2.1 hd hl hn hl2 (fun ls2 hl3 => kk H locs ls2 hP hS hl3)
theorem g_lstore_n (C : CallFix p m c cc nL s args GT own) {k : Fin 4} {i : Nat} {x : Int64} (hd : decode cc pc = .ok (.lstore_n k, 1)) (hi : (k : Nat) = i) (hn : i + 1 < nL) (hl2 : (i, Value.long x) :: lo.filter (fun q => !(q.1 == i) && (!(q.1 == i + 1) && !(q.1 + 1 == i && q.2.category == 2))) = lo2) (kk : WG p l e Rm s m args below meth c nL cells slots Q D cy A H0 L κ ln R I J (pc + 1) lo2 st) : WG p l e Rm s m args below meth c nL cells slots Q D cy A H0 L κ ln R I J pc lo (.long x :: st) := fun H locs ls hP hS hl => lv_lstore_n C.1 C.2.1 hd hi hl hn hl2 (fun ls2 hl3 => kk H locs ls2 hP hS hl3)
theorem g_lstore (C : CallFix p m c cc nL s args GT own) {i : Nat} {x : Int64} (hd : decode cc pc = .ok (.lstore i, 2)) (hn : i + 1 < nL) (hl2 : (i, Value.long x) :: lo.filter (fun q => !(q.1 == i) && (!(q.1 == i + 1) && !(q.1 + 1 == i && q.2.category == 2))) = lo2) (kk : WG p l e Rm s m args below meth c nL cells slots Q D cy A H0 L κ ln R I J (pc + 2) lo2 st) : WG p l e Rm s m args below meth c nL cells slots Q D cy A H0 L κ ln R I J pc lo (.long x :: st) := fun H locs ls hP hS hl => lv_lstore C.1 C.2.1 hd hl hn hl2 (fun ls2 hl3 => kk H locs ls2 hP hS hl3)
theorem g_iinc (C : CallFix p m c cc nL s args GT own) {i k : Nat} {n : Int} {x v : Int32} (hd : decode cc pc = .ok (.iinc i n, 3)) (hk : lo[k]? = some (i, .int x)) (hv : x + Int32.ofInt n = v) (hn : i < nL) (hl2 : (i, Value.int v) :: lo.filter (fun q => !(q.1 == i) && !(q.1 + 1 == i && q.2.category == 2)) = lo2) (kk : WG p l e Rm s m args below meth c nL cells slots Q D cy A H0 L κ ln R I J (pc + 3) lo2 st) : WG p l e Rm s m args below meth c nL cells slots Q D cy A H0 L κ ln R I J pc lo st := fun H locs ls hP hS hl => lv_iinc C.1 C.2.1 hd hl hk hv hn hl2 (fun ls2 hl3 => kk H locs ls2 hP hS hl3)
theorem g_lo {is : List Nat} (hs : is.filterMap (fun i => lo[i]?) = lo2) (kk : WG p l e Rm s m args below meth c nL cells slots Q D cy A H0 L κ ln R I J pc lo2 st) : WG p l e Rm s m args below meth c nL cells slots Q D cy A H0 L κ ln R I J pc lo st := fun H locs ls hP hS hl => kk H locs ls hP hS (lv_sub hl is hs)
theorem g_iconst (C : CallFix p m c cc nL s args GT own) {n : Int} {v : Int32} (hd : decode cc pc = .ok (.iconst n, 1)) (hv : Int32.ofInt n = v) (kk : WG p l e Rm s m args below meth c nL cells slots Q D cy A H0 L κ ln R I J (pc + 1) lo (.int v :: st)) : WG p l e Rm s m args below meth c nL cells slots Q D cy A H0 L κ ln R I J pc lo st := fun H locs ls hP hS hl => lv_iconst C.1 C.2.1 hd hv (kk H locs ls hP hS hl)
theorem g_bipush (C : CallFix p m c cc nL s args GT own) {n : Int} {v : Int32} (hd : decode cc pc = .ok (.bipush n, 2)) (hv : (Int8.ofInt n).toInt32 = v) (kk : WG p l e Rm s m args below meth c nL cells slots Q D cy A H0 L κ ln R I J (pc + 2) lo (.int v :: st)) : WG p l e Rm s m args below meth c nL cells slots Q D cy A H0 L κ ln R I J pc lo st := fun H locs ls hP hS hl => lv_bipush C.1 C.2.1 hd hv (kk H locs ls hP hS hl)
theorem g_sipush (C : CallFix p m c cc nL s args GT own) {n : Int} {v : Int32} (hd : decode cc pc = .ok (.sipush n, 3)) (hv : (Int16.ofInt n).toInt32 = v) (kk : WG p l e Rm s m args below meth c nL cells slots Q D cy A H0 L κ ln R I J (pc + 3) lo (.int v :: st)) : WG p l e Rm s m args below meth c nL cells slots Q D cy A H0 L κ ln R I J pc lo st := fun H locs ls hP hS hl => lv_sipush C.1 C.2.1 hd hv (kk H locs ls hP hS hl)
theorem g_lconst (C : CallFix p m c cc nL s args GT own) {n : Fin 2} {v : Int64} (hd : decode cc pc = .ok (.lconst n, 1)) (hv : Int64.ofNat (n : Nat) = v) (kk : WG p l e Rm s m args below meth c nL cells slots Q D cy A H0 L κ ln R I J (pc + 1) lo (.long v :: st)) : WG p l e Rm s m args below meth c nL cells slots Q D cy A H0 L κ ln R I J pc lo st := fun H locs ls hP hS hl => lv_lconst C.1 C.2.1 hd hv (kk H locs ls hP hS hl)
theorem g_iadd (C : CallFix p m c cc nL s args GT own) {x y v : Int32} (hd : decode cc pc = .ok (.iadd, 1)) (hv : x + y = v) (kk : WG p l e Rm s m args below meth c nL cells slots Q D cy A H0 L κ ln R I J (pc + 1) lo (.int v :: st)) : WG p l e Rm s m args below meth c nL cells slots Q D cy A H0 L κ ln R I J pc lo (.int y :: .int x :: st) := fun H locs ls hP hS hl => lv_iadd C.1 C.2.1 hd (hv ▸ kk H locs ls hP hS hl)
theorem g_isub (C : CallFix p m c cc nL s args GT own) {x y v : Int32} (hd : decode cc pc = .ok (.isub, 1)) (hv : x - y = v) (kk : WG p l e Rm s m args below meth c nL cells slots Q D cy A H0 L κ ln R I J (pc + 1) lo (.int v :: st)) : WG p l e Rm s m args below meth c nL cells slots Q D cy A H0 L κ ln R I J pc lo (.int y :: .int x :: st) := fun H locs ls hP hS hl => lv_isub C.1 C.2.1 hd (hv ▸ kk H locs ls hP hS hl)
theorem g_imul (C : CallFix p m c cc nL s args GT own) {x y v : Int32} (hd : decode cc pc = .ok (.imul, 1)) (hv : x * y = v) (kk : WG p l e Rm s m args below meth c nL cells slots Q D cy A H0 L κ ln R I J (pc + 1) lo (.int v :: st)) : WG p l e Rm s m args below meth c nL cells slots Q D cy A H0 L κ ln R I J pc lo (.int y :: .int x :: st) := fun H locs ls hP hS hl => lv_imul C.1 C.2.1 hd (hv ▸ kk H locs ls hP hS hl)
theorem g_iand (C : CallFix p m c cc nL s args GT own) {x y v : Int32} (hd : decode cc pc = .ok (.iand, 1)) (hv : x &&& y = v) (kk : WG p l e Rm s m args below meth c nL cells slots Q D cy A H0 L κ ln R I J (pc + 1) lo (.int v :: st)) : WG p l e Rm s m args below meth c nL cells slots Q D cy A H0 L κ ln R I J pc lo (.int y :: .int x :: st) := fun H locs ls hP hS hl => lv_iand C.1 C.2.1 hd (hv ▸ kk H locs ls hP hS hl)
theorem g_ior (C : CallFix p m c cc nL s args GT own) {x y v : Int32} (hd : decode cc pc = .ok (.ior, 1)) (hv : x ||| y = v) (kk : WG p l e Rm s m args below meth c nL cells slots Q D cy A H0 L κ ln R I J (pc + 1) lo (.int v :: st)) : WG p l e Rm s m args below meth c nL cells slots Q D cy A H0 L κ ln R I J pc lo (.int y :: .int x :: st) := fun H locs ls hP hS hl => lv_ior C.1 C.2.1 hd (hv ▸ kk H locs ls hP hS hl)
theorem g_ixor (C : CallFix p m c cc nL s args GT own) {x y v : Int32} (hd : decode cc pc = .ok (.ixor, 1)) (hv : x ^^^ y = v) (kk : WG p l e Rm s m args below meth c nL cells slots Q D cy A H0 L κ ln R I J (pc + 1) lo (.int v :: st)) : WG p l e Rm s m args below meth c nL cells slots Q D cy A H0 L κ ln R I J pc lo (.int y :: .int x :: st) := fun H locs ls hP hS hl => lv_ixor C.1 C.2.1 hd (hv ▸ kk H locs ls hP hS hl)
theorem g_ishl (C : CallFix p m c cc nL s args GT own) {x y v : Int32} (hd : decode cc pc = .ok (.ishl, 1)) (hv : x <<< (y &&& 31) = v) (kk : WG p l e Rm s m args below meth c nL cells slots Q D cy A H0 L κ ln R I J (pc + 1) lo (.int v :: st)) : WG p l e Rm s m args below meth c nL cells slots Q D cy A H0 L κ ln R I J pc lo (.int y :: .int x :: st) := fun H locs ls hP hS hl => lv_ishl C.1 C.2.1 hd (hv ▸ kk H locs ls hP hS hl)
theorem g_ishr (C : CallFix p m c cc nL s args GT own) {x y v : Int32} (hd : decode cc pc = .ok (.ishr, 1)) (hv : x >>> (y &&& 31) = v) (kk : WG p l e Rm s m args below meth c nL cells slots Q D cy A H0 L κ ln R I J (pc + 1) lo (.int v :: st)) : WG p l e Rm s m args below meth c nL cells slots Q D cy A H0 L κ ln R I J pc lo (.int y :: .int x :: st) := fun H locs ls hP hS hl => lv_ishr C.1 C.2.1 hd (hv ▸ kk H locs ls hP hS hl)
theorem g_idiv (C : CallFix p m c cc nL s args GT own) {x y v : Int32} (hd : decode cc pc = .ok (.idiv, 1)) (hne : ¬ y = 0) (hv : x / y = v) (kk : WG p l e Rm s m args below meth c nL cells slots Q D cy A H0 L κ ln R I J (pc + 1) lo (.int v :: st)) : WG p l e Rm s m args below meth c nL cells slots Q D cy A H0 L κ ln R I J pc lo (.int y :: .int x :: st) := fun H locs ls hP hS hl => lv_idiv C.1 C.2.1 hd hne (hv ▸ kk H locs ls hP hS hl)
theorem g_irem (C : CallFix p m c cc nL s args GT own) {x y v : Int32} (hd : decode cc pc = .ok (.irem, 1)) (hne : ¬ y = 0) (hv : x - x / y * y = v) (kk : WG p l e Rm s m args below meth c nL cells slots Q D cy A H0 L κ ln R I J (pc + 1) lo (.int v :: st)) : WG p l e Rm s m args below meth c nL cells slots Q D cy A H0 L κ ln R I J pc lo (.int y :: .int x :: st) := fun H locs ls hP hS hl => lv_irem C.1 C.2.1 hd hne (hv ▸ kk H locs ls hP hS hl)
theorem g_pop (C : CallFix p m c cc nL s args GT own) {va : Value} (hd : decode cc pc = .ok (.pop, 1)) (hva : va.category = 1) (kk : WG p l e Rm s m args below meth c nL cells slots Q D cy A H0 L κ ln R I J (pc + 1) lo st) : WG p l e Rm s m args below meth c nL cells slots Q D cy A H0 L κ ln R I J pc lo (va :: st) := fun H locs ls hP hS hl => lv_pop C.1 C.2.1 hd hva (kk H locs ls hP hS hl)
theorem g_dup (C : CallFix p m c cc nL s args GT own) {va : Value} (hd : decode cc pc = .ok (.dup, 1)) (hva : va.category = 1) (kk : WG p l e Rm s m args below meth c nL cells slots Q D cy A H0 L κ ln R I J (pc + 1) lo (va :: va :: st)) : WG p l e Rm s m args below meth c nL cells slots Q D cy A H0 L κ ln R I J pc lo (va :: st) := fun H locs ls hP hS hl => lv_dup C.1 C.2.1 hd hva (kk H locs ls hP hS hl)
theorem g_dup2 (C : CallFix p m c cc nL s args GT own) {va vb : Value} (hd : decode cc pc = .ok (.dup2, 1)) (hva : va.category = 1) (hvb : vb.category = 1) (kk : WG p l e Rm s m args below meth c nL cells slots Q D cy A H0 L κ ln R I J (pc + 1) lo (va :: vb :: va :: vb :: st)) : WG p l e Rm s m args below meth c nL cells slots Q D cy A H0 L κ ln R I J pc lo (va :: vb :: st) := fun H locs ls hP hS hl => lv_dup2_11 C.1 C.2.1 hd hva hvb (kk H locs ls hP hS hl)
theorem g_i2b (C : CallFix p m c cc nL s args GT own) {x v : Int32} (hd : decode cc pc = .ok (.i2b, 1)) (hv : x.toInt8.toInt32 = v) (kk : WG p l e Rm s m args below meth c nL cells slots Q D cy A H0 L κ ln R I J (pc + 1) lo (.int v :: st)) : WG p l e Rm s m args below meth c nL cells slots Q D cy A H0 L κ ln R I J pc lo (.int x :: st) := fun H locs ls hP hS hl => lv_i2b C.1 C.2.1 hd hv (kk H locs ls hP hS hl)
theorem g_iushr (C : CallFix p m c cc nL s args GT own) {x y v : Int32} (hd : decode cc pc = .ok (.iushr, 1)) (hv : (x.toUInt32 >>> (y.toUInt32 &&& Int32.toUInt32 31)).toInt32 = v) (kk : WG p l e Rm s m args below meth c nL cells slots Q D cy A H0 L κ ln R I J (pc + 1) lo (.int v :: st)) : WG p l e Rm s m args below meth c nL cells slots Q D cy A H0 L κ ln R I J pc lo (.int y :: .int x :: st) := fun H locs ls hP hS hl => lv_iushr C.1 C.2.1 hd hv (kk H locs ls hP hS hl)
theorem g_i2l (C : CallFix p m c cc nL s args GT own) {x : Int32} {v : Int64} (hd : decode cc pc = .ok (.i2l, 1)) (hv : x.toInt64 = v) (kk : WG p l e Rm s m args below meth c nL cells slots Q D cy A H0 L κ ln R I J (pc + 1) lo (.long v :: st)) : WG p l e Rm s m args below meth c nL cells slots Q D cy A H0 L κ ln R I J pc lo (.int x :: st) := fun H locs ls hP hS hl => lv_i2l C.1 C.2.1 hd hv (kk H locs ls hP hS hl)
theorem g_icmp_ge (C : CallFix p m c cc nL s args GT own) {x y : Int32} {off : Int} {tgt : Nat} (hd : decode cc pc = .ok (.if_icmp .ge off, 3)) (ht : (pc : Int) + off = (tgt : Int)) (kt : y ≤ x → WG p l e Rm s m args below meth c nL cells slots Q D cy A H0 L κ ln R I J tgt lo st) (kf : ¬ (y ≤ x) → WG p l e Rm s m args below meth c nL cells slots Q D cy A H0 L κ ln R I J (pc + 3) lo st) : WG p l e Rm s m args below meth c nL cells slots Q D cy A H0 L κ ln R I J pc lo (.int y :: .int x :: st) := fun H locs ls hP hS hl => lv_icmp_ge C.1 C.2.1 hd ht (fun h => kt h H locs ls hP hS hl) (fun h => kf h H locs ls hP hS hl)
theorem g_icmp_lt (C : CallFix p m c cc nL s args GT own) {x y : Int32} {off : Int} {tgt : Nat} (hd : decode cc pc = .ok (.if_icmp .lt off, 3)) (ht : (pc : Int) + off = (tgt : Int)) (kt : x < y → WG p l e Rm s m args below meth c nL cells slots Q D cy A H0 L κ ln R I J tgt lo st) (kf : ¬ (x < y) → WG p l e Rm s m args below meth c nL cells slots Q D cy A H0 L κ ln R I J (pc + 3) lo st) : WG p l e Rm s m args below meth c nL cells slots Q D cy A H0 L κ ln R I J pc lo (.int y :: .int x :: st) := fun H locs ls hP hS hl => lv_icmp_lt C.1 C.2.1 hd ht (fun h => kt h H locs ls hP hS hl) (fun h => kf h H locs ls hP hS hl)
theorem g_icmp_gt (C : CallFix p m c cc nL s args GT own) {x y : Int32} {off : Int} {tgt : Nat} (hd : decode cc pc = .ok (.if_icmp .gt off, 3)) (ht : (pc : Int) + off = (tgt : Int)) (kt : y < x → WG p l e Rm s m args below meth c nL cells slots Q D cy A H0 L κ ln R I J tgt lo st) (kf : ¬ (y < x) → WG p l e Rm s m args below meth c nL cells slots Q D cy A H0 L κ ln R I J (pc + 3) lo st) : WG p l e Rm s m args below meth c nL cells slots Q D cy A H0 L κ ln R I J pc lo (.int y :: .int x :: st) := fun H locs ls hP hS hl => lv_icmp_gt C.1 C.2.1 hd ht (fun h => kt h H locs ls hP hS hl) (fun h => kf h H locs ls hP hS hl)
theorem g_icmp_le (C : CallFix p m c cc nL s args GT own) {x y : Int32} {off : Int} {tgt : Nat} (hd : decode cc pc = .ok (.if_icmp .le off, 3)) (ht : (pc : Int) + off = (tgt : Int)) (kt : x ≤ y → WG p l e Rm s m args below meth c nL cells slots Q D cy A H0 L κ ln R I J tgt lo st) (kf : ¬ (x ≤ y) → WG p l e Rm s m args below meth c nL cells slots Q D cy A H0 L κ ln R I J (pc + 3) lo st) : WG p l e Rm s m args below meth c nL cells slots Q D cy A H0 L κ ln R I J pc lo (.int y :: .int x :: st) := fun H locs ls hP hS hl => lv_icmp_le C.1 C.2.1 hd ht (fun h => kt h H locs ls hP hS hl) (fun h => kf h H locs ls hP hS hl)
theorem g_icmp_eq (C : CallFix p m c cc nL s args GT own) {x y : Int32} {off : Int} {tgt : Nat} (hd : decode cc pc = .ok (.if_icmp .eq off, 3)) (ht : (pc : Int) + off = (tgt : Int)) (kt : x = y → WG p l e Rm s m args below meth c nL cells slots Q D cy A H0 L κ ln R I J tgt lo st) (kf : ¬ (x = y) → WG p l e Rm s m args below meth c nL cells slots Q D cy A H0 L κ ln R I J (pc + 3) lo st) : WG p l e Rm s m args below meth c nL cells slots Q D cy A H0 L κ ln R I J pc lo (.int y :: .int x :: st) := fun H locs ls hP hS hl => lv_icmp_eq C.1 C.2.1 hd ht (fun h => kt h H locs ls hP hS hl) (fun h => kf h H locs ls hP hS hl)
theorem g_icmp_ne (C : CallFix p m c cc nL s args GT own) {x y : Int32} {off : Int} {tgt : Nat} (hd : decode cc pc = .ok (.if_icmp .ne off, 3)) (ht : (pc : Int) + off = (tgt : Int)) (kt : ¬ x = y → WG p l e Rm s m args below meth c nL cells slots Q D cy A H0 L κ ln R I J tgt lo st) (kf : x = y → WG p l e Rm s m args below meth c nL cells slots Q D cy A H0 L κ ln R I J (pc + 3) lo st) : WG p l e Rm s m args below meth c nL cells slots Q D cy A H0 L κ ln R I J pc lo (.int y :: .int x :: st) := fun H locs ls hP hS hl => lv_icmp_ne C.1 C.2.1 hd ht (fun h => kt h H locs ls hP hS hl) (fun h => kf h H locs ls hP hS hl)
theorem g_if_ge (C : CallFix p m c cc nL s args GT own) {x : Int32} {off : Int} {tgt : Nat} (hd : decode cc pc = .ok (.ifCond .ge off, 3)) (ht : (pc : Int) + off = (tgt : Int)) (kt : 0 ≤ x → WG p l e Rm s m args below meth c nL cells slots Q D cy A H0 L κ ln R I J tgt lo st) (kf : ¬ (0 ≤ x) → WG p l e Rm s m args below meth c nL cells slots Q D cy A H0 L κ ln R I J (pc + 3) lo st) : WG p l e Rm s m args below meth c nL cells slots Q D cy A H0 L κ ln R I J pc lo (.int x :: st) := fun H locs ls hP hS hl => lv_if_ge C.1 C.2.1 hd ht (fun h => kt h H locs ls hP hS hl) (fun h => kf h H locs ls hP hS hl)
theorem g_if_lt (C : CallFix p m c cc nL s args GT own) {x : Int32} {off : Int} {tgt : Nat} (hd : decode cc pc = .ok (.ifCond .lt off, 3)) (ht : (pc : Int) + off = (tgt : Int)) (kt : x < 0 → WG p l e Rm s m args below meth c nL cells slots Q D cy A H0 L κ ln R I J tgt lo st) (kf : ¬ (x < 0) → WG p l e Rm s m args below meth c nL cells slots Q D cy A H0 L κ ln R I J (pc + 3) lo st) : WG p l e Rm s m args below meth c nL cells slots Q D cy A H0 L κ ln R I J pc lo (.int x :: st) := fun H locs ls hP hS hl => lv_if_lt C.1 C.2.1 hd ht (fun h => kt h H locs ls hP hS hl) (fun h => kf h H locs ls hP hS hl)
theorem g_if_gt (C : CallFix p m c cc nL s args GT own) {x : Int32} {off : Int} {tgt : Nat} (hd : decode cc pc = .ok (.ifCond .gt off, 3)) (ht : (pc : Int) + off = (tgt : Int)) (kt : 0 < x → WG p l e Rm s m args below meth c nL cells slots Q D cy A H0 L κ ln R I J tgt lo st) (kf : ¬ (0 < x) → WG p l e Rm s m args below meth c nL cells slots Q D cy A H0 L κ ln R I J (pc + 3) lo st) : WG p l e Rm s m args below meth c nL cells slots Q D cy A H0 L κ ln R I J pc lo (.int x :: st) := fun H locs ls hP hS hl => lv_if_gt C.1 C.2.1 hd ht (fun h => kt h H locs ls hP hS hl) (fun h => kf h H locs ls hP hS hl)
theorem g_if_le (C : CallFix p m c cc nL s args GT own) {x : Int32} {off : Int} {tgt : Nat} (hd : decode cc pc = .ok (.ifCond .le off, 3)) (ht : (pc : Int) + off = (tgt : Int)) (kt : x ≤ 0 → WG p l e Rm s m args below meth c nL cells slots Q D cy A H0 L κ ln R I J tgt lo st) (kf : ¬ (x ≤ 0) → WG p l e Rm s m args below meth c nL cells slots Q D cy A H0 L κ ln R I J (pc + 3) lo st) : WG p l e Rm s m args below meth c nL cells slots Q D cy A H0 L κ ln R I J pc lo (.int x :: st) := fun H locs ls hP hS hl => lv_if_le C.1 C.2.1 hd ht (fun h => kt h H locs ls hP hS hl) (fun h => kf h H locs ls hP hS hl)
theorem g_if_eq (C : CallFix p m c cc nL s args GT own) {x : Int32} {off : Int} {tgt : Nat} (hd : decode cc pc = .ok (.ifCond .eq off, 3)) (ht : (pc : Int) + off = (tgt : Int)) (kt : x = 0 → WG p l e Rm s m args below meth c nL cells slots Q D cy A H0 L κ ln R I J tgt lo st) (kf : ¬ (x = 0) → WG p l e Rm s m args below meth c nL cells slots Q D cy A H0 L κ ln R I J (pc + 3) lo st) : WG p l e Rm s m args below meth c nL cells slots Q D cy A H0 L κ ln R I J pc lo (.int x :: st) := fun H locs ls hP hS hl => lv_if_eq C.1 C.2.1 hd ht (fun h => kt h H locs ls hP hS hl) (fun h => kf h H locs ls hP hS hl)
theorem g_if_ne (C : CallFix p m c cc nL s args GT own) {x : Int32} {off : Int} {tgt : Nat} (hd : decode cc pc = .ok (.ifCond .ne off, 3)) (ht : (pc : Int) + off = (tgt : Int)) (kt : ¬ x = 0 → WG p l e Rm s m args below meth c nL cells slots Q D cy A H0 L κ ln R I J tgt lo st) (kf : x = 0 → WG p l e Rm s m args below meth c nL cells slots Q D cy A H0 L κ ln R I J (pc + 3) lo st) : WG p l e Rm s m args below meth c nL cells slots Q D cy A H0 L κ ln R I J pc lo (.int x :: st) := fun H locs ls hP hS hl => lv_if_ne C.1 C.2.1 hd ht (fun h => kt h H locs ls hP hS hl) (fun h => kf h H locs ls hP hS hl)
theorem g_goto (C : CallFix p m c cc nL s args GT own) {off : Int} {tgt : Nat} (hd : decode cc pc = .ok (.goto off, 3)) (ht : (pc : Int) + off = (tgt : Int)) (kk : WG p l e Rm s m args below meth c nL cells slots Q D cy A H0 L κ ln R I J tgt lo st) : WG p l e Rm s m args below meth c nL cells slots Q D cy A H0 L κ ln R I J pc lo st := fun H locs ls hP hS hl => lv_goto C.1 C.2.1 hd ht (kk H locs ls hP hS hl)
theorem g_tableIn (C : CallFix p m c cc nL s args GT own) {dflt low hi : Int} {offs : Array Int} {len : Nat} {x : Int32} {off : Int} {tgt : Nat} (hd : decode cc pc = .ok (.tableswitch dflt low hi offs, len)) (h1 : ¬ x.toInt < low) (h2 : ¬ hi < x.toInt) (ho : offs[(x.toInt - low).toNat]? = some off) (ht : (pc : Int) + off = (tgt : Int)) (kk : WG p l e Rm s m args below meth c nL cells slots Q D cy A H0 L κ ln R I J tgt lo st) : WG p l e Rm s m args below meth c nL cells slots Q D cy A H0 L κ ln R I J pc lo (.int x :: st) := fun H locs ls hP hS hl => lv_tableIn C.1 C.2.1 hd h1 h2 ho ht (kk H locs ls hP hS hl)
theorem g_tableOut (C : CallFix p m c cc nL s args GT own) {dflt low hi : Int} {offs : Array Int} {len : Nat} {x : Int32} {tgt : Nat} (hd : decode cc pc = .ok (.tableswitch dflt low hi offs, len)) (h : x.toInt < low ∨ hi < x.toInt) (ht : (pc : Int) + dflt = (tgt : Int)) (kk : WG p l e Rm s m args below meth c nL cells slots Q D cy A H0 L κ ln R I J tgt lo st) : WG p l e Rm s m args below meth c nL cells slots Q D cy A H0 L κ ln R I J pc lo (.int x :: st) := fun H locs ls hP hS hl => lv_tableOut C.1 C.2.1 hd h ht (kk H locs ls hP hS hl)
theorem g_getI (C : CallFix p m c cc nL s args GT own) {a ci k idx : Nat} {Cn : String} {T : u_T} {N : Nat} (K : Wc_ D cy A L s) (ha : a ∈ L) (hk : κ a = ci) (F : Fd_ own idx ci k 0 Cn T N) {v : Int32} (hv : I a k = v) (hd : decode cc pc = .ok (.getfield idx, 3)) (kk : WG p l e Rm s m args below meth c nL cells slots Q D cy A H0 L κ ln R I J (pc + 3) lo (.int v :: st)) : WG p l e Rm s m args below meth c nL cells slots Q D cy A H0 L κ ln R I J pc lo (.ref a :: st) := by
  intro H locs ls hP hS hl
  obtain ⟨q, hq⟩ := pl_at (f := cel_ cy κ ln R I J) ha
  rw [cel_o hk F.1] at hq
  have h1 := fs_get I J R a (fk_.getD ci []) 0 k 0 F.2.2.2.1
  rw [Nat.zero_add] at h1
  refine va_get C.1 C.2.1 C.2.2.2.2 F.2.2.2.2.1 C.2.2.2.1 K.2.2 hP q hq F.2.1 k F.2.2.1 (C.2.2.2.2 _ F.2.2.2.2.2) (fun _ h => h) h1 hd ?_
  subst hv
  exact kk H locs ls hP hS hl
theorem g_getJ (C : CallFix p m c cc nL s args GT own) {a ci k idx : Nat} {Cn : String} {T : u_T} {N : Nat} (K : Wc_ D cy A L s) (ha : a ∈ L) (hk : κ a = ci) (F : Fd_ own idx ci k 1 Cn T N) {v : Int64} (hv : J a k = v) (hd : decode cc pc = .ok (.getfield idx, 3)) (kk : WG p l e Rm s m args below meth c nL cells slots Q D cy A H0 L κ ln R I J (pc + 3) lo (.long v :: st)) : WG p l e Rm s m args below meth c nL cells slots Q D cy A H0 L κ ln R I J pc lo (.ref a :: st) := by
  intro H locs ls hP hS hl
  obtain ⟨q, hq⟩ := pl_at (f := cel_ cy κ ln R I J) ha
  rw [cel_o hk F.1] at hq
  have h1 := fs_get I J R a (fk_.getD ci []) 0 k 1 F.2.2.2.1
  rw [Nat.zero_add] at h1
  refine va_get C.1 C.2.1 C.2.2.2.2 F.2.2.2.2.1 C.2.2.2.1 K.2.2 hP q hq F.2.1 k F.2.2.1 (C.2.2.2.2 _ F.2.2.2.2.2) (fun _ h => h) h1 hd ?_
  subst hv
  exact kk H locs ls hP hS hl
theorem g_getR (C : CallFix p m c cc nL s args GT own) {a ci k idx : Nat} {Cn : String} {T : u_T} {N : Nat} (K : Wc_ D cy A L s) (ha : a ∈ L) (hk : κ a = ci) (F : Fd_ own idx ci k 2 Cn T N) {b : Nat} (hv : R a k = some b) (hd : decode cc pc = .ok (.getfield idx, 3)) (kk : WG p l e Rm s m args below meth c nL cells slots Q D cy A H0 L κ ln R I J (pc + 3) lo (.ref b :: st)) : WG p l e Rm s m args below meth c nL cells slots Q D cy A H0 L κ ln R I J pc lo (.ref a :: st) := by
  intro H locs ls hP hS hl
  obtain ⟨q, hq⟩ := pl_at (f := cel_ cy κ ln R I J) ha
  rw [cel_o hk F.1] at hq
  have h1 := fs_get I J R a (fk_.getD ci []) 0 k 2 F.2.2.2.1
  rw [Nat.zero_add, show sv_ I J R a k 2 = .ref b by simp only [sv_, hv, va_rf]] at h1
  exact va_get C.1 C.2.1 C.2.2.2.2 F.2.2.2.2.1 C.2.2.2.1 K.2.2 hP q hq F.2.1 k F.2.2.1 (C.2.2.2.2 _ F.2.2.2.2.2) (fun _ h => h) h1 hd (kk H locs ls hP hS hl)
theorem g_putI (C : CallFix p m c cc nL s args GT own) {a ci k idx : Nat} {Cn : String} {T : u_T} {N : Nat} (K : Wc_ D cy A L s) (ha : a ∈ L) (hk : κ a = ci) (F : Fd_ own idx ci k 0 Cn T N) {ty : FieldType} {v : Int32} (P : Pd_ T N k false ty) (hn : narrow ty (.int v) = .int v) (hf : fits ty (.int v) = true) (hd : decode cc pc = .ok (.putfield idx, 3)) (kk : WG p l e Rm s m args below meth c nL cells slots Q D cy A H0 L κ ln R (u2_ I a k v) J (pc + 3) lo st) : WG p l e Rm s m args below meth c nL cells slots Q D cy A H0 L κ ln R I J pc lo (.int v :: .ref a :: st) := by
  intro H locs ls hP hS hl
  have hD := pl_D K.1 K.2.1 (cel_ cy κ ln R I J)
  obtain ⟨q, hq0⟩ := pl_at (f := cel_ cy κ ln R I J) ha
  have hq := hq0
  rw [cel_o hk F.1] at hq
  obtain ⟨ty0, hty⟩ := P.1
  refine va_put C.1 C.2.1 C.2.2.2.2 F.2.2.2.2.1 ty0 hty P.2.1 C.2.2.2.1 K.2.2 hP hD hS q hq F.2.1 k F.2.2.1 (C.2.2.2.2 _ F.2.2.2.2.2) (fun _ h => h) P.2.2.1 P.2.2.2 hn hf (by rw [fs_len]; exact (List.getElem?_eq_some_iff.mp F.2.2.2.1).1) hd (fun H1 locs1 hP1 _ hS1 => ?_)
  rw [fs_setI (fk_.getD ci []) 0 k F.2.2.2.1, Nat.zero_add, pl_set (g := cel_ cy κ ln R (u2_ I a k v) J) hD ha hq0 (fun b => ?_)] at hP1
  · exact kk H1 locs1 ls hP1 hS1 hl
  · by_cases hb : b = a
    · subst hb; rw [va_up_self, cel_o hk F.1]
    · rw [va_up_ne _ _ hb]; exact cel_cong rfl rfl (fun j => (u2_b hb).symm) (fun _ => rfl) (fun _ => rfl)
theorem g_putFI (C : CallFix p m c cc nL s args GT own) {a ci k idx : Nat} {Cn : String} {T : u_T} {N : Nat} (K : Wc_ D cy A L s) (ha : a ∈ L) (hk : κ a = ci) (F : Fd_ own idx ci k 0 Cn T N) {ty : FieldType} {v : Int32} (P : Pd_ T N k true ty) (hin : meth.name = "<init>") (hdecl : (T k).1 = own) (hn : narrow ty (.int v) = .int v) (hf : fits ty (.int v) = true) (hd : decode cc pc = .ok (.putfield idx, 3)) (kk : WG p l e Rm s m args below meth c nL cells slots Q D cy A H0 L κ ln R (u2_ I a k v) J (pc + 3) lo st) : WG p l e Rm s m args below meth c nL cells slots Q D cy A H0 L κ ln R I J pc lo (.int v :: .ref a :: st) := by
  intro H locs ls hP hS hl
  have hD := pl_D K.1 K.2.1 (cel_ cy κ ln R I J)
  obtain ⟨q, hq0⟩ := pl_at (f := cel_ cy κ ln R I J) ha
  have hq := hq0
  rw [cel_o hk F.1] at hq
  obtain ⟨ty0, hty⟩ := P.1
  refine va_putF C.1 C.2.1 C.2.2.2.2 F.2.2.2.2.1 ty0 hty P.2.1 C.2.2.2.1 K.2.2 hP hD hS q hq F.2.1 k F.2.2.1 (C.2.2.2.2 _ F.2.2.2.2.2) (fun _ h => h) P.2.2.1 hin hdecl P.2.2.2 hn hf (by rw [fs_len]; exact (List.getElem?_eq_some_iff.mp F.2.2.2.1).1) hd (fun H1 locs1 hP1 _ hS1 => ?_)
  rw [fs_setI (fk_.getD ci []) 0 k F.2.2.2.1, Nat.zero_add, pl_set (g := cel_ cy κ ln R (u2_ I a k v) J) hD ha hq0 (fun b => ?_)] at hP1
  · exact kk H1 locs1 ls hP1 hS1 hl
  · by_cases hb : b = a
    · subst hb; rw [va_up_self, cel_o hk F.1]
    · rw [va_up_ne _ _ hb]; exact cel_cong rfl rfl (fun j => (u2_b hb).symm) (fun _ => rfl) (fun _ => rfl)
theorem g_putJ (C : CallFix p m c cc nL s args GT own) {a ci k idx : Nat} {Cn : String} {T : u_T} {N : Nat} (K : Wc_ D cy A L s) (ha : a ∈ L) (hk : κ a = ci) (F : Fd_ own idx ci k 1 Cn T N) {ty : FieldType} {v : Int64} (P : Pd_ T N k false ty) (hn : narrow ty (.long v) = .long v) (hf : fits ty (.long v) = true) (hd : decode cc pc = .ok (.putfield idx, 3)) (kk : WG p l e Rm s m args below meth c nL cells slots Q D cy A H0 L κ ln R I (u2_ J a k v) (pc + 3) lo st) : WG p l e Rm s m args below meth c nL cells slots Q D cy A H0 L κ ln R I J pc lo (.long v :: .ref a :: st) := by
  intro H locs ls hP hS hl
  have hD := pl_D K.1 K.2.1 (cel_ cy κ ln R I J)
  obtain ⟨q, hq0⟩ := pl_at (f := cel_ cy κ ln R I J) ha
  have hq := hq0
  rw [cel_o hk F.1] at hq
  obtain ⟨ty0, hty⟩ := P.1
  refine va_put C.1 C.2.1 C.2.2.2.2 F.2.2.2.2.1 ty0 hty P.2.1 C.2.2.2.1 K.2.2 hP hD hS q hq F.2.1 k F.2.2.1 (C.2.2.2.2 _ F.2.2.2.2.2) (fun _ h => h) P.2.2.1 P.2.2.2 hn hf (by rw [fs_len]; exact (List.getElem?_eq_some_iff.mp F.2.2.2.1).1) hd (fun H1 locs1 hP1 _ hS1 => ?_)
  rw [fs_setJ (fk_.getD ci []) 0 k F.2.2.2.1, Nat.zero_add, pl_set (g := cel_ cy κ ln R I (u2_ J a k v)) hD ha hq0 (fun b => ?_)] at hP1
  · exact kk H1 locs1 ls hP1 hS1 hl
  · by_cases hb : b = a
    · subst hb; rw [va_up_self, cel_o hk F.1]
    · rw [va_up_ne _ _ hb]; exact cel_cong rfl rfl (fun _ => rfl) (fun j => (u2_b hb).symm) (fun _ => rfl)
theorem g_putFJ (C : CallFix p m c cc nL s args GT own) {a ci k idx : Nat} {Cn : String} {T : u_T} {N : Nat} (K : Wc_ D cy A L s) (ha : a ∈ L) (hk : κ a = ci) (F : Fd_ own idx ci k 1 Cn T N) {ty : FieldType} {v : Int64} (P : Pd_ T N k true ty) (hin : meth.name = "<init>") (hdecl : (T k).1 = own) (hn : narrow ty (.long v) = .long v) (hf : fits ty (.long v) = true) (hd : decode cc pc = .ok (.putfield idx, 3)) (kk : WG p l e Rm s m args below meth c nL cells slots Q D cy A H0 L κ ln R I (u2_ J a k v) (pc + 3) lo st) : WG p l e Rm s m args below meth c nL cells slots Q D cy A H0 L κ ln R I J pc lo (.long v :: .ref a :: st) := by
  intro H locs ls hP hS hl
  have hD := pl_D K.1 K.2.1 (cel_ cy κ ln R I J)
  obtain ⟨q, hq0⟩ := pl_at (f := cel_ cy κ ln R I J) ha
  have hq := hq0
  rw [cel_o hk F.1] at hq
  obtain ⟨ty0, hty⟩ := P.1
  refine va_putF C.1 C.2.1 C.2.2.2.2 F.2.2.2.2.1 ty0 hty P.2.1 C.2.2.2.1 K.2.2 hP hD hS q hq F.2.1 k F.2.2.1 (C.2.2.2.2 _ F.2.2.2.2.2) (fun _ h => h) P.2.2.1 hin hdecl P.2.2.2 hn hf (by rw [fs_len]; exact (List.getElem?_eq_some_iff.mp F.2.2.2.1).1) hd (fun H1 locs1 hP1 _ hS1 => ?_)
  rw [fs_setJ (fk_.getD ci []) 0 k F.2.2.2.1, Nat.zero_add, pl_set (g := cel_ cy κ ln R I (u2_ J a k v)) hD ha hq0 (fun b => ?_)] at hP1
  · exact kk H1 locs1 ls hP1 hS1 hl
  · by_cases hb : b = a
    · subst hb; rw [va_up_self, cel_o hk F.1]
    · rw [va_up_ne _ _ hb]; exact cel_cong rfl rfl (fun _ => rfl) (fun j => (u2_b hb).symm) (fun _ => rfl)
theorem g_putR (C : CallFix p m c cc nL s args GT own) {a ci k idx : Nat} {Cn : String} {T : u_T} {N : Nat} (K : Wc_ D cy A L s) (ha : a ∈ L) (hk : κ a = ci) (F : Fd_ own idx ci k 2 Cn T N) {ty : FieldType} {v : Nat} (P : Pd_ T N k false ty) (hn : narrow ty (.ref v) = .ref v) (hf : fits ty (.ref v) = true) (hd : decode cc pc = .ok (.putfield idx, 3)) (kk : WG p l e Rm s m args below meth c nL cells slots Q D cy A H0 L κ ln (u2_ R a k (some v)) I J (pc + 3) lo st) : WG p l e Rm s m args below meth c nL cells slots Q D cy A H0 L κ ln R I J pc lo (.ref v :: .ref a :: st) := by
  intro H locs ls hP hS hl
  have hD := pl_D K.1 K.2.1 (cel_ cy κ ln R I J)
  obtain ⟨q, hq0⟩ := pl_at (f := cel_ cy κ ln R I J) ha
  have hq := hq0
  rw [cel_o hk F.1] at hq
  obtain ⟨ty0, hty⟩ := P.1
  refine va_put C.1 C.2.1 C.2.2.2.2 F.2.2.2.2.1 ty0 hty P.2.1 C.2.2.2.1 K.2.2 hP hD hS q hq F.2.1 k F.2.2.1 (C.2.2.2.2 _ F.2.2.2.2.2) (fun _ h => h) P.2.2.1 P.2.2.2 hn hf (by rw [fs_len]; exact (List.getElem?_eq_some_iff.mp F.2.2.2.1).1) hd (fun H1 locs1 hP1 _ hS1 => ?_)
  rw [fs_setR (fk_.getD ci []) 0 k F.2.2.2.1, Nat.zero_add, pl_set (g := cel_ cy κ ln (u2_ R a k (some v)) I J) hD ha hq0 (fun b => ?_)] at hP1
  · exact kk H1 locs1 ls hP1 hS1 hl
  · by_cases hb : b = a
    · subst hb; rw [va_up_self, cel_o hk F.1]
    · rw [va_up_ne _ _ hb]; exact cel_cong rfl rfl (fun _ => rfl) (fun _ => rfl) (fun j => (u2_b hb).symm)
theorem g_putFR (C : CallFix p m c cc nL s args GT own) {a ci k idx : Nat} {Cn : String} {T : u_T} {N : Nat} (K : Wc_ D cy A L s) (ha : a ∈ L) (hk : κ a = ci) (F : Fd_ own idx ci k 2 Cn T N) {ty : FieldType} {v : Nat} (P : Pd_ T N k true ty) (hin : meth.name = "<init>") (hdecl : (T k).1 = own) (hn : narrow ty (.ref v) = .ref v) (hf : fits ty (.ref v) = true) (hd : decode cc pc = .ok (.putfield idx, 3)) (kk : WG p l e Rm s m args below meth c nL cells slots Q D cy A H0 L κ ln (u2_ R a k (some v)) I J (pc + 3) lo st) : WG p l e Rm s m args below meth c nL cells slots Q D cy A H0 L κ ln R I J pc lo (.ref v :: .ref a :: st) := by
  intro H locs ls hP hS hl
  have hD := pl_D K.1 K.2.1 (cel_ cy κ ln R I J)
  obtain ⟨q, hq0⟩ := pl_at (f := cel_ cy κ ln R I J) ha
  have hq := hq0
  rw [cel_o hk F.1] at hq
  obtain ⟨ty0, hty⟩ := P.1
  refine va_putF C.1 C.2.1 C.2.2.2.2 F.2.2.2.2.1 ty0 hty P.2.1 C.2.2.2.1 K.2.2 hP hD hS q hq F.2.1 k F.2.2.1 (C.2.2.2.2 _ F.2.2.2.2.2) (fun _ h => h) P.2.2.1 hin hdecl P.2.2.2 hn hf (by rw [fs_len]; exact (List.getElem?_eq_some_iff.mp F.2.2.2.1).1) hd (fun H1 locs1 hP1 _ hS1 => ?_)
  rw [fs_setR (fk_.getD ci []) 0 k F.2.2.2.1, Nat.zero_add, pl_set (g := cel_ cy κ ln (u2_ R a k (some v)) I J) hD ha hq0 (fun b => ?_)] at hP1
  · exact kk H1 locs1 ls hP1 hS1 hl
  · by_cases hb : b = a
    · subst hb; rw [va_up_self, cel_o hk F.1]
    · rw [va_up_ne _ _ hb]; exact cel_cong rfl rfl (fun _ => rfl) (fun _ => rfl) (fun j => (u2_b hb).symm)
end GW
end
section
section GA
variable {p : Program} {l : Launch} {e : Env} {Rm : Room} {s : State} {m : MethodId} {args : Array Value} {below : List Frame} {meth : Method} {c : Code} {cells slots : Nat} {Q : State → Prop}
variable {cc : ByteArray} {pc nL : Nat} {own : String} {D : va_G} {cy : Nat → ClassId} {A : Nat → Prop} {H0 : Heap} {L : List Nat} {κ ln : Nat → Nat} {R : Nat → Nat → Option Nat} {I : Nat → Nat → Int32} {J : Nat → Nat → Int64} {lo lo2 : List (Nat × Value)} {st : List Value}
theorem up_I {a i : Nat} {x : Int32} : upd (I a) i x = u2_ I a i x a := by funext j; simp [upd, u2_]
theorem up_J {a i : Nat} {x : Int64} : vp_updL (J a) i x = u2_ J a i x a := by funext j; simp [vp_updL, u2_]
theorem up_R {a i : Nat} {x : Option Nat} : va_up (R a) i x = u2_ R a i x a := by funext j; simp [va_up, u2_]
/-- rows are copied: n of b from sp on into a from dp on -/
def c2_ {α : Type} (f : Nat → Nat → α) (b a sp dp n : Nat) : Nat → Nat → α := fun q j => if q = a then va_cpy (f b) (f a) sp dp n j else f q j
theorem c2_b {α : Type} {f : Nat → Nat → α} {b a sp dp n q j : Nat} (h : q ≠ a) : c2_ f b a sp dp n q j = f q j := by simp [c2_, h]
theorem c2_k {α : Type} {κ : Nat → Nat} {f : Nat → Nat → α} {b a sp dp n q j : Nat} (h : κ q ≠ κ a) : c2_ f b a sp dp n q j = f q j := c2_b (fun e => h (by rw [e]))
theorem c2_s {α : Type} {f : Nat → Nat → α} {b a sp dp n : Nat} : c2_ f b a sp dp n a = va_cpy (f b) (f a) sp dp n := by funext j; simp [c2_]
theorem g_iald (C : CallFix p m c cc nL s args GT own) (K : Wc_ D cy A L s) {a : Nat} (ha : a ∈ L) (hk : κ a = 14) {i v : Int32} (hin : vp_in i (ln a)) (hv : I a i.toNatClampNeg = v) (hd : decode cc pc = .ok (.iaload, 1)) (kk : WG p l e Rm s m args below meth c nL cells slots Q D cy A H0 L κ ln R I J (pc + 1) lo (.int v :: st)) : WG p l e Rm s m args below meth c nL cells slots Q D cy A H0 L κ ln R I J pc lo (.int i :: .ref a :: st) := by
  intro H locs ls hP hS hl
  obtain ⟨q, hq⟩ := pl_at (f := cel_ cy κ ln R I J) ha
  rw [cel_i hk (by decide)] at hq
  subst hv
  exact va_iald C.1 C.2.1 K.2.2 hP q 1 hq rfl hin hd (kk H locs ls hP hS hl)
theorem g_bald (C : CallFix p m c cc nL s args GT own) (K : Wc_ D cy A L s) {a : Nat} (ha : a ∈ L) (hk : κ a = 13) {i v : Int32} (hin : vp_in i (ln a)) (hv : I a i.toNatClampNeg = v) (hd : decode cc pc = .ok (.baload, 1)) (kk : WG p l e Rm s m args below meth c nL cells slots Q D cy A H0 L κ ln R I J (pc + 1) lo (.int v :: st)) : WG p l e Rm s m args below meth c nL cells slots Q D cy A H0 L κ ln R I J pc lo (.int i :: .ref a :: st) := by
  intro H locs ls hP hS hl
  obtain ⟨q, hq⟩ := pl_at (f := cel_ cy κ ln R I J) ha
  rw [cel_i hk (by decide)] at hq
  subst hv
  exact va_bald C.1 C.2.1 K.2.2 hP q 0 hq rfl hin hd (kk H locs ls hP hS hl)
theorem g_zald (C : CallFix p m c cc nL s args GT own) (K : Wc_ D cy A L s) {a : Nat} (ha : a ∈ L) (hk : κ a = 16) {i v : Int32} (hin : vp_in i (ln a)) (hv : I a i.toNatClampNeg = v) (hd : decode cc pc = .ok (.baload, 1)) (kk : WG p l e Rm s m args below meth c nL cells slots Q D cy A H0 L κ ln R I J (pc + 1) lo (.int v :: st)) : WG p l e Rm s m args below meth c nL cells slots Q D cy A H0 L κ ln R I J pc lo (.int i :: .ref a :: st) := by
  intro H locs ls hP hS hl
  obtain ⟨q, hq⟩ := pl_at (f := cel_ cy κ ln R I J) ha
  rw [cel_i hk (by decide)] at hq
  subst hv
  exact va_zald C.1 C.2.1 K.2.2 hP q 3 hq rfl hin hd (kk H locs ls hP hS hl)
theorem g_lald (C : CallFix p m c cc nL s args GT own) (K : Wc_ D cy A L s) {a : Nat} (ha : a ∈ L) (hk : κ a = 15) {i : Int32} {v : Int64} (hin : vp_in i (ln a)) (hv : J a i.toNatClampNeg = v) (hd : decode cc pc = .ok (.laload, 1)) (kk : WG p l e Rm s m args below meth c nL cells slots Q D cy A H0 L κ ln R I J (pc + 1) lo (.long v :: st)) : WG p l e Rm s m args below meth c nL cells slots Q D cy A H0 L κ ln R I J pc lo (.int i :: .ref a :: st) := by
  intro H locs ls hP hS hl
  obtain ⟨q, hq⟩ := pl_at (f := cel_ cy κ ln R I J) ha
  rw [cel_l hk] at hq
  subst hv
  exact va_lald C.1 C.2.1 K.2.2 hP q 2 hq rfl hin hd (kk H locs ls hP hS hl)
theorem g_aaldC (C : CallFix p m c cc nL s args GT own) (K : Wc_ D cy A L s) {a : Nat} (ha : a ∈ L) (hk : κ a = 17) {i : Int32} {b : Nat} (hin : vp_in i (ln a)) (hv : R a i.toNatClampNeg = some b) (hd : decode cc pc = .ok (.aaload, 1)) (kk : WG p l e Rm s m args below meth c nL cells slots Q D cy A H0 L κ ln R I J (pc + 1) lo (.ref b :: st)) : WG p l e Rm s m args below meth c nL cells slots Q D cy A H0 L κ ln R I J pc lo (.int i :: .ref a :: st) := by
  intro H locs ls hP hS hl
  obtain ⟨q, hq⟩ := pl_at (f := cel_ cy κ ln R I J) ha
  rw [cel_r hk (by decide)] at hq
  refine va_aldq C.1 C.2.1 K.2.2 hP q 4 hq rfl hin hd ?_
  rw [hv]
  exact kk H locs ls hP hS hl
theorem g_aaldI (C : CallFix p m c cc nL s args GT own) (K : Wc_ D cy A L s) {a : Nat} (ha : a ∈ L) (hk : κ a = 18) {i : Int32} {b : Nat} (hin : vp_in i (ln a)) (hv : R a i.toNatClampNeg = some b) (hd : decode cc pc = .ok (.aaload, 1)) (kk : WG p l e Rm s m args below meth c nL cells slots Q D cy A H0 L κ ln R I J (pc + 1) lo (.ref b :: st)) : WG p l e Rm s m args below meth c nL cells slots Q D cy A H0 L κ ln R I J pc lo (.int i :: .ref a :: st) := by
  intro H locs ls hP hS hl
  obtain ⟨q, hq⟩ := pl_at (f := cel_ cy κ ln R I J) ha
  rw [cel_r hk (by decide)] at hq
  refine va_aldq C.1 C.2.1 K.2.2 hP q 5 hq rfl hin hd ?_
  rw [hv]
  exact kk H locs ls hP hS hl
theorem g_iast (C : CallFix p m c cc nL s args GT own) (K : Wc_ D cy A L s) {a : Nat} (ha : a ∈ L) (hk : κ a = 14) {i v : Int32} (hin : vp_in i (ln a)) (hd : decode cc pc = .ok (.iastore, 1)) (kk : WG p l e Rm s m args below meth c nL cells slots Q D cy A H0 L κ ln R (u2_ I a i.toNatClampNeg v) J (pc + 1) lo st) : WG p l e Rm s m args below meth c nL cells slots Q D cy A H0 L κ ln R I J pc lo (.int v :: .int i :: .ref a :: st) := by
  intro H locs ls hP hS hl
  have hD := pl_D K.1 K.2.1 (cel_ cy κ ln R I J)
  obtain ⟨q, hq0⟩ := pl_at (f := cel_ cy κ ln R I J) ha
  have hq := hq0
  rw [cel_i hk (by decide)] at hq
  refine va_iast C.1 C.2.1 K.2.2 hP hD hS q 1 hq rfl hin hd (fun H1 locs1 hP1 _ hS1 => ?_)
  rw [up_I, pl_set (g := cel_ cy κ ln R (u2_ I a i.toNatClampNeg v) J) hD ha hq0 (fun b => ?_)] at hP1
  · exact kk H1 locs1 ls hP1 hS1 hl
  · by_cases hb : b = a
    · subst hb; rw [va_up_self, cel_i hk (by decide)]
    · rw [va_up_ne _ _ hb]; exact cel_cong rfl rfl (fun j => (u2_b hb).symm) (fun _ => rfl) (fun _ => rfl)
theorem g_last (C : CallFix p m c cc nL s args GT own) (K : Wc_ D cy A L s) {a : Nat} (ha : a ∈ L) (hk : κ a = 15) {i : Int32} {v : Int64} (hin : vp_in i (ln a)) (hd : decode cc pc = .ok (.lastore, 1)) (kk : WG p l e Rm s m args below meth c nL cells slots Q D cy A H0 L κ ln R I (u2_ J a i.toNatClampNeg v) (pc + 1) lo st) : WG p l e Rm s m args below meth c nL cells slots Q D cy A H0 L κ ln R I J pc lo (.long v :: .int i :: .ref a :: st) := by
  intro H locs ls hP hS hl
  have hD := pl_D K.1 K.2.1 (cel_ cy κ ln R I J)
  obtain ⟨q, hq0⟩ := pl_at (f := cel_ cy κ ln R I J) ha
  have hq := hq0
  rw [cel_l hk] at hq
  refine va_last C.1 C.2.1 K.2.2 hP hD hS q 2 hq rfl hin hd (fun H1 locs1 hP1 _ hS1 => ?_)
  rw [up_J, pl_set (g := cel_ cy κ ln R I (u2_ J a i.toNatClampNeg v)) hD ha hq0 (fun b => ?_)] at hP1
  · exact kk H1 locs1 ls hP1 hS1 hl
  · by_cases hb : b = a
    · subst hb; rw [va_up_self, cel_l hk]
    · rw [va_up_ne _ _ hb]; exact cel_cong rfl rfl (fun _ => rfl) (fun j => (u2_b hb).symm) (fun _ => rfl)
theorem g_aastC (C : CallFix p m c cc nL s args GT own) (K : Wc_ D cy A L s) {a : Nat} (ha : a ∈ L) (hk : κ a = 17) {i : Int32} {v : Nat} (hv : v ∈ L) (hkv : κ v = 1) (hin : vp_in i (ln a)) (hd : decode cc pc = .ok (.aastore, 1)) (kk : WG p l e Rm s m args below meth c nL cells slots Q D cy A H0 L κ ln (u2_ R a i.toNatClampNeg (some v)) I J (pc + 1) lo st) : WG p l e Rm s m args below meth c nL cells slots Q D cy A H0 L κ ln R I J pc lo (.ref v :: .int i :: .ref a :: st) := by
  intro H locs ls hP hS hl
  have hD := pl_D K.1 K.2.1 (cel_ cy κ ln R I J)
  obtain ⟨q, hq0⟩ := pl_at (f := cel_ cy κ ln R I J) ha
  obtain ⟨qv, hqv⟩ := pl_at (f := cel_ cy κ ln R I J) hv
  have hq := hq0
  rw [cel_r hk (by decide)] at hq
  rw [cel_o hkv (by decide)] at hqv
  refine va_astq C.1 C.2.1 K.2.2 hP hD hS q 4 qv 1 hq (r := (RX1, TX1, 14)) rfl hqv rfl hin hd (fun H1 locs1 hP1 _ hS1 => ?_)
  rw [up_R, pl_set (g := cel_ cy κ ln (u2_ R a i.toNatClampNeg (some v)) I J) hD ha hq0 (fun b => ?_)] at hP1
  · exact kk H1 locs1 ls hP1 hS1 hl
  · by_cases hb : b = a
    · subst hb; rw [va_up_self, cel_r hk (by decide)]
    · rw [va_up_ne _ _ hb]; exact cel_cong rfl rfl (fun _ => rfl) (fun _ => rfl) (fun j => (u2_b hb).symm)
theorem g_aastI (C : CallFix p m c cc nL s args GT own) (K : Wc_ D cy A L s) {a : Nat} (ha : a ∈ L) (hk : κ a = 18) {i : Int32} {v : Nat} (hv : v ∈ L) (hkv : κ v = 3) (hin : vp_in i (ln a)) (hd : decode cc pc = .ok (.aastore, 1)) (kk : WG p l e Rm s m args below meth c nL cells slots Q D cy A H0 L κ ln (u2_ R a i.toNatClampNeg (some v)) I J (pc + 1) lo st) : WG p l e Rm s m args below meth c nL cells slots Q D cy A H0 L κ ln R I J pc lo (.ref v :: .int i :: .ref a :: st) := by
  intro H locs ls hP hS hl
  have hD := pl_D K.1 K.2.1 (cel_ cy κ ln R I J)
  obtain ⟨q, hq0⟩ := pl_at (f := cel_ cy κ ln R I J) ha
  obtain ⟨qv, hqv⟩ := pl_at (f := cel_ cy κ ln R I J) hv
  have hq := hq0
  rw [cel_r hk (by decide)] at hq
  rw [cel_o hkv (by decide)] at hqv
  refine va_astq C.1 C.2.1 K.2.2 hP hD hS q 5 qv 3 hq (r := (RX3, TX3, 4)) rfl hqv rfl hin hd (fun H1 locs1 hP1 _ hS1 => ?_)
  rw [up_R, pl_set (g := cel_ cy κ ln (u2_ R a i.toNatClampNeg (some v)) I J) hD ha hq0 (fun b => ?_)] at hP1
  · exact kk H1 locs1 ls hP1 hS1 hl
  · by_cases hb : b = a
    · subst hb; rw [va_up_self, cel_r hk (by decide)]
    · rw [va_up_ne _ _ hb]; exact cel_cong rfl rfl (fun _ => rfl) (fun _ => rfl) (fun j => (u2_b hb).symm)
theorem g_alenB (C : CallFix p m c cc nL s args GT own) (K : Wc_ D cy A L s) {a : Nat} (ha : a ∈ L) (hk : κ a = 13) {v : Int32} (hv : Int32.ofNat (ln a) = v) (hd : decode cc pc = .ok (.arraylength, 1)) (kk : WG p l e Rm s m args below meth c nL cells slots Q D cy A H0 L κ ln R I J (pc + 1) lo (.int v :: st)) : WG p l e Rm s m args below meth c nL cells slots Q D cy A H0 L κ ln R I J pc lo (.ref a :: st) := by
  intro H locs ls hP hS hl
  obtain ⟨q, hq⟩ := pl_at (f := cel_ cy κ ln R I J) ha
  rw [cel_i hk (by decide)] at hq
  exact va_alen C.1 C.2.1 K.2.2 hP q 0 hq rfl hv hd (kk H locs ls hP hS hl)
theorem g_alenI (C : CallFix p m c cc nL s args GT own) (K : Wc_ D cy A L s) {a : Nat} (ha : a ∈ L) (hk : κ a = 14) {v : Int32} (hv : Int32.ofNat (ln a) = v) (hd : decode cc pc = .ok (.arraylength, 1)) (kk : WG p l e Rm s m args below meth c nL cells slots Q D cy A H0 L κ ln R I J (pc + 1) lo (.int v :: st)) : WG p l e Rm s m args below meth c nL cells slots Q D cy A H0 L κ ln R I J pc lo (.ref a :: st) := by
  intro H locs ls hP hS hl
  obtain ⟨q, hq⟩ := pl_at (f := cel_ cy κ ln R I J) ha
  rw [cel_i hk (by decide)] at hq
  exact va_alen C.1 C.2.1 K.2.2 hP q 1 hq rfl hv hd (kk H locs ls hP hS hl)
theorem g_alenJ (C : CallFix p m c cc nL s args GT own) (K : Wc_ D cy A L s) {a : Nat} (ha : a ∈ L) (hk : κ a = 15) {v : Int32} (hv : Int32.ofNat (ln a) = v) (hd : decode cc pc = .ok (.arraylength, 1)) (kk : WG p l e Rm s m args below meth c nL cells slots Q D cy A H0 L κ ln R I J (pc + 1) lo (.int v :: st)) : WG p l e Rm s m args below meth c nL cells slots Q D cy A H0 L κ ln R I J pc lo (.ref a :: st) := by
  intro H locs ls hP hS hl
  obtain ⟨q, hq⟩ := pl_at (f := cel_ cy κ ln R I J) ha
  rw [cel_l hk] at hq
  exact va_alen C.1 C.2.1 K.2.2 hP q 2 hq rfl hv hd (kk H locs ls hP hS hl)
theorem g_copyI (C : CallFix p m c cc nL s args GT own) (K : Wc_ D cy A L s) {a b idx : Nat} (ha : a ∈ L) (hk : κ a = 14) (hb9 : b ∈ L) (hkb : κ b = 14) (hlk : Cond.methodLink own idx arraycopyName ∈ GT) (hnt : Cond.native arraycopyName ∈ GT) (hst : Cond.static arraycopyName ∈ GT) (hini : Cond.initialized "java/lang/System" ∈ GT) {sp dp n : Int32} (h1 : ¬ sp < 0) (h2 : ¬ dp < 0) (h3 : ¬ n < 0) (h4 : sp.toNatClampNeg + n.toNatClampNeg ≤ ln b) (h5 : dp.toNatClampNeg + n.toNatClampNeg ≤ ln a)
    (hfr : 1 ≤ Rm.frames) (hlc : (st.map fun v => v.category).sum + (nativeFrameWords "java/lang/System" "arraycopy" 5 + 11) ≤ Rm.locals) (hd : decode cc pc = .ok (.invokestatic idx, 3)) (kk : WG p l e Rm s m args below meth c nL cells slots Q D cy A H0 L κ ln R (c2_ I b a sp.toNatClampNeg dp.toNatClampNeg n.toNatClampNeg) J (pc + 3) lo st) : WG p l e Rm s m args below meth c nL cells slots Q D cy A H0 L κ ln R I J pc lo (.int n :: .int dp :: .ref a :: .int sp :: .ref b :: st) := by
  intro H locs ls hP hS hl
  have hD := pl_D K.1 K.2.1 (cel_ cy κ ln R I J)
  obtain ⟨q, hq0⟩ := pl_at (f := cel_ cy κ ln R I J) ha
  obtain ⟨q1, hq1⟩ := pl_at (f := cel_ cy κ ln R I J) hb9
  have hq := hq0
  rw [cel_i hk (by decide)] at hq
  rw [cel_i hkb (by decide)] at hq1
  refine va_copyi C.1 C.2.1 (by rw [C.2.2.1]; exact hl.1.symm) C.2.2.2.1 (C.2.2.2.2 _ hlk) (C.2.2.2.2 _ hnt) (C.2.2.2.2 _ hst) (C.2.2.2.2 _ hini) K.2.2 hP hD hS q1 q 1 1 (ty := .int) hq1 hq rfl rfl rfl h1 h2 h3 h4 h5 (fun _ _ => rfl) hfr hlc hd (fun H1 locs1 hP1 _ hS1 => ?_)
  rw [← c2_s, pl_set (g := cel_ cy κ ln R (c2_ I b a sp.toNatClampNeg dp.toNatClampNeg n.toNatClampNeg) J) hD ha hq0 (fun b => ?_)] at hP1
  · exact kk H1 locs1 ls hP1 hS1 hl
  · by_cases hb : b = a
    · subst hb; rw [va_up_self, cel_i hk (by decide)]
    · rw [va_up_ne _ _ hb]; exact cel_cong rfl rfl (fun j => (c2_b hb).symm) (fun _ => rfl) (fun _ => rfl)
theorem g_copyJ (C : CallFix p m c cc nL s args GT own) (K : Wc_ D cy A L s) {a b idx : Nat} (ha : a ∈ L) (hk : κ a = 15) (hb9 : b ∈ L) (hkb : κ b = 15) (hlk : Cond.methodLink own idx arraycopyName ∈ GT) (hnt : Cond.native arraycopyName ∈ GT) (hst : Cond.static arraycopyName ∈ GT) (hini : Cond.initialized "java/lang/System" ∈ GT) {sp dp n : Int32} (h1 : ¬ sp < 0) (h2 : ¬ dp < 0) (h3 : ¬ n < 0) (h4 : sp.toNatClampNeg + n.toNatClampNeg ≤ ln b) (h5 : dp.toNatClampNeg + n.toNatClampNeg ≤ ln a)
    (hfr : 1 ≤ Rm.frames) (hlc : (st.map fun v => v.category).sum + (nativeFrameWords "java/lang/System" "arraycopy" 5 + 11) ≤ Rm.locals) (hd : decode cc pc = .ok (.invokestatic idx, 3)) (kk : WG p l e Rm s m args below meth c nL cells slots Q D cy A H0 L κ ln R I (c2_ J b a sp.toNatClampNeg dp.toNatClampNeg n.toNatClampNeg) (pc + 3) lo st) : WG p l e Rm s m args below meth c nL cells slots Q D cy A H0 L κ ln R I J pc lo (.int n :: .int dp :: .ref a :: .int sp :: .ref b :: st) := by
  intro H locs ls hP hS hl
  have hD := pl_D K.1 K.2.1 (cel_ cy κ ln R I J)
  obtain ⟨q, hq0⟩ := pl_at (f := cel_ cy κ ln R I J) ha
  obtain ⟨q1, hq1⟩ := pl_at (f := cel_ cy κ ln R I J) hb9
  have hq := hq0
  rw [cel_l hk] at hq
  rw [cel_l hkb] at hq1
  refine va_copyl C.1 C.2.1 (by rw [C.2.2.1]; exact hl.1.symm) C.2.2.2.1 (C.2.2.2.2 _ hlk) (C.2.2.2.2 _ hnt) (C.2.2.2.2 _ hst) (C.2.2.2.2 _ hini) K.2.2 hP hD hS q1 q 2 2 (ty := .long) hq1 hq rfl rfl rfl h1 h2 h3 h4 h5 (fun _ _ => rfl) hfr hlc hd (fun H1 locs1 hP1 _ hS1 => ?_)
  rw [← c2_s, pl_set (g := cel_ cy κ ln R I (c2_ J b a sp.toNatClampNeg dp.toNatClampNeg n.toNatClampNeg)) hD ha hq0 (fun b => ?_)] at hP1
  · exact kk H1 locs1 ls hP1 hS1 hl
  · by_cases hb : b = a
    · subst hb; rw [va_up_self, cel_l hk]
    · rw [va_up_ne _ _ hb]; exact cel_cong rfl rfl (fun _ => rfl) (fun j => (c2_b hb).symm) (fun _ => rfl)
end GA
end
section
/-- the world of a method that makes nothing -/
def Pu_ (D : va_G) (cy : Nat → ClassId) (L : List Nat) (κ ln : Nat → Nat) (R : Nat → Nat → Option Nat) (I : Nat → Nat → Int32) (J : Nat → Nat → Int64) (U : State) : Prop := va_P D vwCl (va_pl L (cel_ cy κ ln R I J)) U.heap ∧ va_K D vwCl (tys_ cy) U ∧ L.Nodup
def Al_ (L : List Nat) : Nat → Prop := fun q => q ∈ L
def Qi_ (D : va_G) (cy : Nat → ClassId) (L : List Nat) (κ ln : Nat → Nat) (R : Nat → Nat → Option Nat) (post : Int32 → (Nat → Nat → Int32) → (Nat → Nat → Int64) → Prop) : Array Value → State → Outcome → State → Prop := va_Qi (fun r (u : (Nat → Nat → Int32) × (Nat → Nat → Int64)) => post r u.1 u.2) (fun u t => Pu_ D cy L κ ln R u.1 u.2 t) (Al_ L)
def Ql_ (D : va_G) (cy : Nat → ClassId) (L : List Nat) (κ ln : Nat → Nat) (R : Nat → Nat → Option Nat) (post : Int64 → (Nat → Nat → Int32) → (Nat → Nat → Int64) → Prop) : Array Value → State → Outcome → State → Prop := va_Ql (fun r (u : (Nat → Nat → Int32) × (Nat → Nat → Int64)) => post r u.1 u.2) (fun u t => Pu_ D cy L κ ln R u.1 u.2 t) (Al_ L)
def Qv_ (D : va_G) (cy : Nat → ClassId) (L : List Nat) (κ ln : Nat → Nat) (R : Nat → Nat → Option Nat) (post : (Nat → Nat → Int32) → (Nat → Nat → Int64) → Prop) : Array Value → State → Outcome → State → Prop := va_Qv (fun (u : (Nat → Nat → Int32) × (Nat → Nat → Int64)) => post u.1 u.2) (fun u t => Pu_ D cy L κ ln R u.1 u.2 t) (Al_ L)
/-- a contract: answers an int (a boolean), a long, nothing -/
def CtI (l : Launch) (y : MethodName) (cc : ByteArray) (nL : Nat) (ret : Option FieldType) (rm : Room) (D : va_G) (cy : Nat → ClassId) (L : List Nat) (κ ln : Nat → Nat) (R : Nat → Nat → Option Nat) (I : Nat → Nat → Int32) (J : Nat → Nat → Int64) (av : List Value) (post : Int32 → (Nat → Nat → Int32) → (Nat → Nat → Int64) → Prop) : Prop :=
  Met l y (Cond.code y cc nL ret :: GT) rm (va_Pc av (Pu_ D cy L κ ln R I J)) (Qi_ D cy L κ ln R post) 0 0 (Al_ L)
def CtL (l : Launch) (y : MethodName) (cc : ByteArray) (nL : Nat) (ret : Option FieldType) (rm : Room) (D : va_G) (cy : Nat → ClassId) (L : List Nat) (κ ln : Nat → Nat) (R : Nat → Nat → Option Nat) (I : Nat → Nat → Int32) (J : Nat → Nat → Int64) (av : List Value) (post : Int64 → (Nat → Nat → Int32) → (Nat → Nat → Int64) → Prop) : Prop :=
  Met l y (Cond.code y cc nL ret :: GT) rm (va_Pc av (Pu_ D cy L κ ln R I J)) (Ql_ D cy L κ ln R post) 0 0 (Al_ L)
def CtV (l : Launch) (y : MethodName) (cc : ByteArray) (nL : Nat) (ret : Option FieldType) (rm : Room) (D : va_G) (cy : Nat → ClassId) (L : List Nat) (κ ln : Nat → Nat) (R : Nat → Nat → Option Nat) (I : Nat → Nat → Int32) (J : Nat → Nat → Int64) (av : List Value) (post : (Nat → Nat → Int32) → (Nat → Nat → Int64) → Prop) : Prop :=
  Met l y (Cond.code y cc nL ret :: GT) rm (va_Pc av (Pu_ D cy L κ ln R I J)) (Qv_ D cy L κ ln R post) 0 0 (Al_ L)
/-- what a method's body may use -/
def Bd_ (p : Program) (s : State) (m : MethodId) (args : Array Value) (meth : Method) (c : Code) (cc : ByteArray) (nL : Nat) (y : MethodName) (ret : Option FieldType) : Prop := CallFix p m c cc nL s args GT y.cls ∧ meth.sig.returnType = ret ∧ meth.locks = false ∧ meth.name = y.name
theorem CtI.of {l : Launch} {y : MethodName} {cc : ByteArray} {nL : Nat} {ret : Option FieldType} {rm : Room} {D : va_G} {cy : Nat → ClassId} {L : List Nat} {κ ln : Nat → Nat} {R : Nat → Nat → Option Nat} {I : Nat → Nat → Int32} {J : Nat → Nat → Int64} {av : List Value} {post : Int32 → (Nat → Nat → Int32) → (Nat → Nat → Int64) → Prop} (hy : plainName y.cls = true) (hn : (lg_sl av).length ≤ nL)
    (body : ∀ p e s m below meth c, Bd_ p s m av.toArray meth c cc nL y ret → Wc_ D cy (Al_ L) L s → WG p l e rm s m av.toArray below meth c nL 0 0 (MQ below (Qi_ D cy L κ ln R post) av.toArray s 0 0 (Al_ L)) D cy (Al_ L) s.heap L κ ln R I J 0 (lv_args 0 av) []) : CtI l y cc nL ret rm D cy L κ ln R I J av post := by
  refine Met.ofW (cc := cc) (maxL := nL) (ret := ret) hy rfl ?_
  intro p e s m args below meth c s₁ B hml hv
  obtain ⟨rfl, hP, hK, hN⟩ := hv
  have hts := atoms_spec (ws := Cond.code y cc nL ret :: GT) B.pre
  have hb : Bd_ p s m av.toArray meth c cc nL y ret := ⟨⟨B.exec, B.bytes, hml, findClass_of_methodNamed B.named, fun w hw => hts w (List.mem_cons_of_mem _ hw)⟩, B.returns, B.notSynchronized, (name_of_methodNamed B.named B.method).1⟩
  have h1 := body p e s m below meth c hb ⟨hN, fun q h => h, hK⟩
  rw [lg_entry_eq]
  exact h1 s.heap [] _ hP va_S.rf (lv_entry av hn)
theorem CtL.of {l : Launch} {y : MethodName} {cc : ByteArray} {nL : Nat} {ret : Option FieldType} {rm : Room} {D : va_G} {cy : Nat → ClassId} {L : List Nat} {κ ln : Nat → Nat} {R : Nat → Nat → Option Nat} {I : Nat → Nat → Int32} {J : Nat → Nat → Int64} {av : List Value} {post : Int64 → (Nat → Nat → Int32) → (Nat → Nat → Int64) → Prop} (hy : plainName y.cls = true) (hn : (lg_sl av).length ≤ nL)
    (body : ∀ p e s m below meth c, Bd_ p s m av.toArray meth c cc nL y ret → Wc_ D cy (Al_ L) L s → WG p l e rm s m av.toArray below meth c nL 0 0 (MQ below (Ql_ D cy L κ ln R post) av.toArray s 0 0 (Al_ L)) D cy (Al_ L) s.heap L κ ln R I J 0 (lv_args 0 av) []) : CtL l y cc nL ret rm D cy L κ ln R I J av post := by
  refine Met.ofW (cc := cc) (maxL := nL) (ret := ret) hy rfl ?_
  intro p e s m args below meth c s₁ B hml hv
  obtain ⟨rfl, hP, hK, hN⟩ := hv
  have hts := atoms_spec (ws := Cond.code y cc nL ret :: GT) B.pre
  have hb : Bd_ p s m av.toArray meth c cc nL y ret := ⟨⟨B.exec, B.bytes, hml, findClass_of_methodNamed B.named, fun w hw => hts w (List.mem_cons_of_mem _ hw)⟩, B.returns, B.notSynchronized, (name_of_methodNamed B.named B.method).1⟩
  have h1 := body p e s m below meth c hb ⟨hN, fun q h => h, hK⟩
  rw [lg_entry_eq]
  exact h1 s.heap [] _ hP va_S.rf (lv_entry av hn)
theorem CtV.of {l : Launch} {y : MethodName} {cc : ByteArray} {nL : Nat} {ret : Option FieldType} {rm : Room} {D : va_G} {cy : Nat → ClassId} {L : List Nat} {κ ln : Nat → Nat} {R : Nat → Nat → Option Nat} {I : Nat → Nat → Int32} {J : Nat → Nat → Int64} {av : List Value} {post : (Nat → Nat → Int32) → (Nat → Nat → Int64) → Prop} (hy : plainName y.cls = true) (hn : (lg_sl av).length ≤ nL)
    (body : ∀ p e s m below meth c, Bd_ p s m av.toArray meth c cc nL y ret → Wc_ D cy (Al_ L) L s → WG p l e rm s m av.toArray below meth c nL 0 0 (MQ below (Qv_ D cy L κ ln R post) av.toArray s 0 0 (Al_ L)) D cy (Al_ L) s.heap L κ ln R I J 0 (lv_args 0 av) []) : CtV l y cc nL ret rm D cy L κ ln R I J av post := by
  refine Met.ofW (cc := cc) (maxL := nL) (ret := ret) hy rfl ?_
  intro p e s m args below meth c s₁ B hml hv
  obtain ⟨rfl, hP, hK, hN⟩ := hv
  have hts := atoms_spec (ws := Cond.code y cc nL ret :: GT) B.pre
  have hb : Bd_ p s m av.toArray meth c cc nL y ret := ⟨⟨B.exec, B.bytes, hml, findClass_of_methodNamed B.named, fun w hw => hts w (List.mem_cons_of_mem _ hw)⟩, B.returns, B.notSynchronized, (name_of_methodNamed B.named B.method).1⟩
  have h1 := body p e s m below meth c hb ⟨hN, fun q h => h, hK⟩
  rw [lg_entry_eq]
  exact h1 s.heap [] _ hP va_S.rf (lv_entry av hn)
theorem Pu_blind {D : va_G} {cy : Nat → ClassId} {L : List Nat} {κ ln : Nat → Nat} {R : Nat → Nat → Option Nat} {I : Nat → Nat → Int32} {J : Nat → Nat → Int64} {av : List Value} : FrameBlind (va_Pc av (Pu_ D cy L κ ln R I J)) := fun a U g mk q => by
  obtain ⟨q0, qP, qK, qN⟩ := q
  exact ⟨q0, qP, va_K.moved (u := U) (U := U.calling g mk a) (Vm.Alike.refl U.vm) qK, qN⟩
/-- words of a call: own names y by idx; y is found in class Cn -/
def Vw_ (own : String) (idx : Nat) (Cn : String) (y : MethodName) (cc : ByteArray) (nL : Nat) (ret : Option FieldType) (n : Nat) : Prop := Cond.methodLink own idx y ∈ GT ∧ Cond.instanceMethod y ∈ GT ∧ Cond.selects Cn y y ∈ GT ∧ Cond.initialized Cn ∈ GT ∧ Cond.code y cc nL ret ∈ GT ∧ (y.cls = Cn ∧ y.cls ≠ "java/lang/invoke/MethodHandle" ∧ y.cls ≠ "java/lang/invoke/VarHandle" ∧ (parseMethodDescriptor y.desc).map (fun d => d.parameters.length) = some n)
def Sw_ (own : String) (idx : Nat) (y : MethodName) (cc : ByteArray) (nL : Nat) (ret : Option FieldType) (n : Nat) : Prop := Cond.methodLink own idx y ∈ GT ∧ Cond.static y ∈ GT ∧ Cond.initialized y.cls ∈ GT ∧ Cond.code y cc nL ret ∈ GT ∧ (y.cls ≠ "java/lang/invoke/MethodHandle" ∧ y.cls ≠ "java/lang/invoke/VarHandle" ∧ (parseMethodDescriptor y.desc).map (fun d => d.parameters.length) = some n)
theorem gi_V {own : String} {idx : Nat} {Cn : String} {y : MethodName} {cc : ByteArray} {nL : Nat} {ret : Option FieldType} {n : Nat} (h : Vw_ own idx Cn y cc nL ret n) : GoodIn GT (wsV own idx Cn y (Cond.code y cc nL ret :: GT)) := by
  intro w hw
  have : w ∈ GT := by
    simp only [wsV, List.mem_append, List.mem_cons, List.not_mem_nil, or_false] at hw
    rcases hw with (e | e | e | e) | e | e
    · exact e ▸ h.1
    · exact e ▸ h.2.1
    · exact e ▸ h.2.2.1
    · exact e ▸ h.2.2.2.1
    · exact e ▸ h.2.2.2.2.1
    · exact e
  exact ⟨this, gt_good this⟩
theorem gi_S {own : String} {idx : Nat} {y : MethodName} {cc : ByteArray} {nL : Nat} {ret : Option FieldType} {n : Nat} (h : Sw_ own idx y cc nL ret n) : GoodIn GT (va_wsS own idx y (Cond.code y cc nL ret :: GT)) := by
  intro w hw
  have : w ∈ GT := by
    simp only [va_wsS, List.mem_append, List.mem_cons, List.not_mem_nil, or_false] at hw
    rcases hw with (e | e | e) | e | e
    · exact e ▸ h.1
    · exact e ▸ h.2.1
    · exact e ▸ h.2.2.1
    · exact e ▸ h.2.2.2.1
    · exact e
  exact ⟨this, gt_good this⟩
section GC
variable {p : Program} {l : Launch} {e : Env} {Rm : Room} {s : State} {m : MethodId} {args : Array Value} {below : List Frame} {meth : Method} {c : Code} {cells slots : Nat} {Q : State → Prop}
variable {cc : ByteArray} {pc nL : Nat} {own : String} {D : va_G} {cy : Nat → ClassId} {A : Nat → Prop} {H0 : Heap} {L : List Nat} {κ ln : Nat → Nat} {R : Nat → Nat → Option Nat} {I : Nat → Nat → Int32} {J : Nat → Nat → Int64} {lo lo2 : List (Nat × Value)} {st : List Value}
variable {y : MethodName} {cc2 : ByteArray} {nL2 : Nat} {ret : Option FieldType} {rm : Room} {As : List Value} {b ci idx n N : Nat} {Cn : String} {T : u_T}
theorem g_callVI (C : CallFix p m c cc nL s args GT own) (K : Wc_ D cy A L s) {post : Int32 → (Nat → Nat → Int32) → (Nat → Nat → Int64) → Prop} (hM : CtI l y cc2 nL2 ret rm D cy L κ ln R I J (.ref b :: As) post) (hb9 : b ∈ L) (hkb : κ b = ci) (hci : ci < 13) (hcl : vwCl[ci]? = some (Cn, T, N)) (hw : Vw_ own idx Cn y cc2 nL2 ret n) (hn : As.length = n) (hr0 : rm.cells = 0 ∧ rm.slots = 0) (hrm : rm.frames + 1 ≤ Rm.frames ∧ 8 + (nL2 + 11) + rm.locals ≤ Rm.locals) (hcat : (st.map fun v => v.category).sum ≤ 8) (hcs : cells + 0 ≤ Rm.cells ∧ slots + 0 ≤ Rm.slots) (hd : decode cc pc = .ok (.invokevirtual idx, 3)) {st0 : List Value} (hst : st0 = As.reverse ++ .ref b :: st)
    (kk : ∀ (r : Int32) (I2 : Nat → Nat → Int32) (J2 : Nat → Nat → Int64), post r I2 J2 → WG p l e Rm s m args below meth c nL cells slots Q D cy A H0 L κ ln R I2 J2 (pc + 3) lo (.int r :: st)) : WG p l e Rm s m args below meth c nL cells slots Q D cy A H0 L κ ln R I J pc lo st0 := by
  intro H locs ls hP hS hl
  subst hst
  obtain ⟨q, hq⟩ := pl_at (f := cel_ cy κ ln R I J) hb9
  rw [cel_o hkb hci] at hq
  refine va_calli (va_runV (As := As) (rest := st) C hM (cwV n C.2.2.2.2 (gi_V hw) rfl hr0.1 hr0.2 hw.2.2.2.2.2 hrm) ⟨Pu_blind, va_recv K.2.2 hP hcl hq, fun U hU hW => ⟨rfl, by rw [hU]; exact hP, va_K.moved hW.alike K.2.2, K.1⟩⟩ rfl hn hl.1 rfl (lv_room hcat) hd hcs) hS (fun q _ h => K.2.1 q h) (fun q h => K.2.1 q h) (fun r u t H1 locs1 ht hvm hw1 hB hz1 hk1 hS1 => ?_)
  obtain ⟨hP1, -, -⟩ := hB
  rw [ht] at hP1
  exact kk r u.1 u.2 hw1 H1 locs1 ls hP1 hS1 hl
theorem g_callSI (C : CallFix p m c cc nL s args GT own) (K : Wc_ D cy A L s) {post : Int32 → (Nat → Nat → Int32) → (Nat → Nat → Int64) → Prop} (hM : CtI l y cc2 nL2 ret rm D cy L κ ln R I J As post) (hw : Sw_ own idx y cc2 nL2 ret n) (hn : As.length = n) (hr0 : rm.cells = 0 ∧ rm.slots = 0) (hrm : rm.frames + 1 ≤ Rm.frames ∧ 8 + (nL2 + 11) + rm.locals ≤ Rm.locals) (hcat : (st.map fun v => v.category).sum ≤ 8) (hcs : cells + 0 ≤ Rm.cells ∧ slots + 0 ≤ Rm.slots) (hd : decode cc pc = .ok (.invokestatic idx, 3)) {st0 : List Value} (hst : st0 = As.reverse ++ st)
    (kk : ∀ (r : Int32) (I2 : Nat → Nat → Int32) (J2 : Nat → Nat → Int64), post r I2 J2 → WG p l e Rm s m args below meth c nL cells slots Q D cy A H0 L κ ln R I2 J2 (pc + 3) lo (.int r :: st)) : WG p l e Rm s m args below meth c nL cells slots Q D cy A H0 L κ ln R I J pc lo st0 := by
  intro H locs ls hP hS hl
  subst hst
  refine va_calli (va_runS (As := As) (rest := st) C hM (va_cwS n C.2.2.2.2 (gi_S hw) rfl hr0.1 hr0.2 hw.2.2.2.2 hrm) ⟨Pu_blind, fun U hU hW => ⟨rfl, by rw [hU]; exact hP, va_K.moved hW.alike K.2.2, K.1⟩⟩ rfl hn hl.1 rfl (lv_room hcat) hd hcs) hS (fun q _ h => K.2.1 q h) (fun q h => K.2.1 q h) (fun r u t H1 locs1 ht hvm hw1 hB hz1 hk1 hS1 => ?_)
  obtain ⟨hP1, -, -⟩ := hB
  rw [ht] at hP1
  exact kk r u.1 u.2 hw1 H1 locs1 ls hP1 hS1 hl
theorem g_callVL (C : CallFix p m c cc nL s args GT own) (K : Wc_ D cy A L s) {post : Int64 → (Nat → Nat → Int32) → (Nat → Nat → Int64) → Prop} (hM : CtL l y cc2 nL2 ret rm D cy L κ ln R I J (.ref b :: As) post) (hb9 : b ∈ L) (hkb : κ b = ci) (hci : ci < 13) (hcl : vwCl[ci]? = some (Cn, T, N)) (hw : Vw_ own idx Cn y cc2 nL2 ret n) (hn : As.length = n) (hr0 : rm.cells = 0 ∧ rm.slots = 0) (hrm : rm.frames + 1 ≤ Rm.frames ∧ 8 + (nL2 + 11) + rm.locals ≤ Rm.locals) (hcat : (st.map fun v => v.category).sum ≤ 8) (hcs : cells + 0 ≤ Rm.cells ∧ slots + 0 ≤ Rm.slots) (hd : decode cc pc = .ok (.invokevirtual idx, 3)) {st0 : List Value} (hst : st0 = As.reverse ++ .ref b :: st)
    (kk : ∀ (r : Int64) (I2 : Nat → Nat → Int32) (J2 : Nat → Nat → Int64), post r I2 J2 → WG p l e Rm s m args below meth c nL cells slots Q D cy A H0 L κ ln R I2 J2 (pc + 3) lo (.long r :: st)) : WG p l e Rm s m args below meth c nL cells slots Q D cy A H0 L κ ln R I J pc lo st0 := by
  intro H locs ls hP hS hl
  subst hst
  obtain ⟨q, hq⟩ := pl_at (f := cel_ cy κ ln R I J) hb9
  rw [cel_o hkb hci] at hq
  refine va_calll (va_runV (As := As) (rest := st) C hM (cwV n C.2.2.2.2 (gi_V hw) rfl hr0.1 hr0.2 hw.2.2.2.2.2 hrm) ⟨Pu_blind, va_recv K.2.2 hP hcl hq, fun U hU hW => ⟨rfl, by rw [hU]; exact hP, va_K.moved hW.alike K.2.2, K.1⟩⟩ rfl hn hl.1 rfl (lv_room hcat) hd hcs) hS (fun q _ h => K.2.1 q h) (fun q h => K.2.1 q h) (fun r u t H1 locs1 ht hvm hw1 hB hz1 hk1 hS1 => ?_)
  obtain ⟨hP1, -, -⟩ := hB
  rw [ht] at hP1
  exact kk r u.1 u.2 hw1 H1 locs1 ls hP1 hS1 hl
theorem g_callSL (C : CallFix p m c cc nL s args GT own) (K : Wc_ D cy A L s) {post : Int64 → (Nat → Nat → Int32) → (Nat → Nat → Int64) → Prop} (hM : CtL l y cc2 nL2 ret rm D cy L κ ln R I J As post) (hw : Sw_ own idx y cc2 nL2 ret n) (hn : As.length = n) (hr0 : rm.cells = 0 ∧ rm.slots = 0) (hrm : rm.frames + 1 ≤ Rm.frames ∧ 8 + (nL2 + 11) + rm.locals ≤ Rm.locals) (hcat : (st.map fun v => v.category).sum ≤ 8) (hcs : cells + 0 ≤ Rm.cells ∧ slots + 0 ≤ Rm.slots) (hd : decode cc pc = .ok (.invokestatic idx, 3)) {st0 : List Value} (hst : st0 = As.reverse ++ st)
    (kk : ∀ (r : Int64) (I2 : Nat → Nat → Int32) (J2 : Nat → Nat → Int64), post r I2 J2 → WG p l e Rm s m args below meth c nL cells slots Q D cy A H0 L κ ln R I2 J2 (pc + 3) lo (.long r :: st)) : WG p l e Rm s m args below meth c nL cells slots Q D cy A H0 L κ ln R I J pc lo st0 := by
  intro H locs ls hP hS hl
  subst hst
  refine va_calll (va_runS (As := As) (rest := st) C hM (va_cwS n C.2.2.2.2 (gi_S hw) rfl hr0.1 hr0.2 hw.2.2.2.2 hrm) ⟨Pu_blind, fun U hU hW => ⟨rfl, by rw [hU]; exact hP, va_K.moved hW.alike K.2.2, K.1⟩⟩ rfl hn hl.1 rfl (lv_room hcat) hd hcs) hS (fun q _ h => K.2.1 q h) (fun q h => K.2.1 q h) (fun r u t H1 locs1 ht hvm hw1 hB hz1 hk1 hS1 => ?_)
  obtain ⟨hP1, -, -⟩ := hB
  rw [ht] at hP1
  exact kk r u.1 u.2 hw1 H1 locs1 ls hP1 hS1 hl
theorem g_callVV (C : CallFix p m c cc nL s args GT own) (K : Wc_ D cy A L s) {post : (Nat → Nat → Int32) → (Nat → Nat → Int64) → Prop} (hM : CtV l y cc2 nL2 ret rm D cy L κ ln R I J (.ref b :: As) post) (hb9 : b ∈ L) (hkb : κ b = ci) (hci : ci < 13) (hcl : vwCl[ci]? = some (Cn, T, N)) (hw : Vw_ own idx Cn y cc2 nL2 ret n) (hn : As.length = n) (hr0 : rm.cells = 0 ∧ rm.slots = 0) (hrm : rm.frames + 1 ≤ Rm.frames ∧ 8 + (nL2 + 11) + rm.locals ≤ Rm.locals) (hcat : (st.map fun v => v.category).sum ≤ 8) (hcs : cells + 0 ≤ Rm.cells ∧ slots + 0 ≤ Rm.slots) (hd : decode cc pc = .ok (.invokevirtual idx, 3)) {st0 : List Value} (hst : st0 = As.reverse ++ .ref b :: st)
    (kk : ∀ (I2 : Nat → Nat → Int32) (J2 : Nat → Nat → Int64), post I2 J2 → WG p l e Rm s m args below meth c nL cells slots Q D cy A H0 L κ ln R I2 J2 (pc + 3) lo (st)) : WG p l e Rm s m args below meth c nL cells slots Q D cy A H0 L κ ln R I J pc lo st0 := by
  intro H locs ls hP hS hl
  subst hst
  obtain ⟨q, hq⟩ := pl_at (f := cel_ cy κ ln R I J) hb9
  rw [cel_o hkb hci] at hq
  refine va_callv (va_runV (As := As) (rest := st) C hM (cwV n C.2.2.2.2 (gi_V hw) rfl hr0.1 hr0.2 hw.2.2.2.2.2 hrm) ⟨Pu_blind, va_recv K.2.2 hP hcl hq, fun U hU hW => ⟨rfl, by rw [hU]; exact hP, va_K.moved hW.alike K.2.2, K.1⟩⟩ rfl hn hl.1 rfl (lv_room hcat) hd hcs) hS (fun q _ h => K.2.1 q h) (fun q h => K.2.1 q h) (fun u t H1 locs1 ht hvm hw1 hB hz1 hk1 hS1 => ?_)
  obtain ⟨hP1, -, -⟩ := hB
  rw [ht] at hP1
  exact kk u.1 u.2 hw1 H1 locs1 ls hP1 hS1 hl
theorem g_callSV (C : CallFix p m c cc nL s args GT own) (K : Wc_ D cy A L s) {post : (Nat → Nat → Int32) → (Nat → Nat → Int64) → Prop} (hM : CtV l y cc2 nL2 ret rm D cy L κ ln R I J As post) (hw : Sw_ own idx y cc2 nL2 ret n) (hn : As.length = n) (hr0 : rm.cells = 0 ∧ rm.slots = 0) (hrm : rm.frames + 1 ≤ Rm.frames ∧ 8 + (nL2 + 11) + rm.locals ≤ Rm.locals) (hcat : (st.map fun v => v.category).sum ≤ 8) (hcs : cells + 0 ≤ Rm.cells ∧ slots + 0 ≤ Rm.slots) (hd : decode cc pc = .ok (.invokestatic idx, 3)) {st0 : List Value} (hst : st0 = As.reverse ++ st)
    (kk : ∀ (I2 : Nat → Nat → Int32) (J2 : Nat → Nat → Int64), post I2 J2 → WG p l e Rm s m args below meth c nL cells slots Q D cy A H0 L κ ln R I2 J2 (pc + 3) lo (st)) : WG p l e Rm s m args below meth c nL cells slots Q D cy A H0 L κ ln R I J pc lo st0 := by
  intro H locs ls hP hS hl
  subst hst
  refine va_callv (va_runS (As := As) (rest := st) C hM (va_cwS n C.2.2.2.2 (gi_S hw) rfl hr0.1 hr0.2 hw.2.2.2.2 hrm) ⟨Pu_blind, fun U hU hW => ⟨rfl, by rw [hU]; exact hP, va_K.moved hW.alike K.2.2, K.1⟩⟩ rfl hn hl.1 rfl (lv_room hcat) hd hcs) hS (fun q _ h => K.2.1 q h) (fun q h => K.2.1 q h) (fun u t H1 locs1 ht hvm hw1 hB hz1 hk1 hS1 => ?_)
  obtain ⟨hP1, -, -⟩ := hB
  rw [ht] at hP1
  exact kk u.1 u.2 hw1 H1 locs1 ls hP1 hS1 hl
theorem g_zret {post : Int32 → (Nat → Nat → Int32) → (Nat → Nat → Int64) → Prop} {ty : FieldType} {r : Int32} (B : Bd_ p s m args meth c cc nL y ret) (K : Wc_ D cy (Al_ L) L s) (hrt : ret = some ty) (hn : narrow ty (.int r) = .int r) (hp : post r I J) (hd : decode cc pc = .ok (.ireturn, 1)) : WG p l e Rm s m args below meth c nL 0 0 (MQ below (Qi_ D cy L κ ln R post) args s 0 0 (Al_ L)) D cy (Al_ L) s.heap L κ ln R I J pc lo [.int r] := by
  intro H locs ls hP hS hl
  exact W.zret (v := r) B.1.1 B.1.2.1 (B.2.1.trans hrt) hn (fun t ht hW => ⟨⟨r, (I, J), rfl, hp, by rw [ht]; exact hP, va_K.moved hW.alike K.2.2, K.1⟩, hS.F ht⟩) hS.2.2 hd (hlocks := B.2.2.1)
theorem g_lret {post : Int64 → (Nat → Nat → Int32) → (Nat → Nat → Int64) → Prop} {r : Int64} (B : Bd_ p s m args meth c cc nL y ret) (K : Wc_ D cy (Al_ L) L s) (hrt : ret = some .long) (hp : post r I J) (hd : decode cc pc = .ok (.lreturn, 1)) : WG p l e Rm s m args below meth c nL 0 0 (MQ below (Ql_ D cy L κ ln R post) args s 0 0 (Al_ L)) D cy (Al_ L) s.heap L κ ln R I J pc lo [.long r] := by
  intro H locs ls hP hS hl
  exact W.lret (v := r) B.1.1 B.1.2.1 (B.2.1.trans hrt) (fun t ht hW => ⟨⟨r, (I, J), rfl, hp, by rw [ht]; exact hP, va_K.moved hW.alike K.2.2, K.1⟩, hS.F ht⟩) hS.2.2 hd (hlocks := B.2.2.1)
theorem g_vret {post : (Nat → Nat → Int32) → (Nat → Nat → Int64) → Prop} (B : Bd_ p s m args meth c cc nL y ret) (K : Wc_ D cy (Al_ L) L s) (hrt : ret = none) (hp : post I J) (hd : decode cc pc = .ok (.return_, 1)) : WG p l e Rm s m args below meth c nL 0 0 (MQ below (Qv_ D cy L κ ln R post) args s 0 0 (Al_ L)) D cy (Al_ L) s.heap L κ ln R I J pc lo [] := by
  intro H locs ls hP hS hl
  exact W.vret B.1.1 B.1.2.1 (B.2.1.trans hrt) (fun t ht hW => ⟨⟨(I, J), rfl, hp, by rw [ht]; exact hP, va_K.moved hW.alike K.2.2, K.1⟩, hS.F ht⟩) hS.2.2 hd (hlocks := B.2.2.1)
end GC
end
section
theorem gt_all {ws : List Cond} (h : ws.all (fun w => decide (w ∈ lw_tbl) && goodWord w) = true) : ∀ w ∈ ws, w ∈ GT := fun w hw => by
  have h1 := List.all_eq_true.mp h w hw
  simp only [Bool.and_eq_true, decide_eq_true_eq] at h1
  exact List.mem_filter.mpr h1
set_option maxRecDepth 100000 in
theorem u_in0 : ∀ w ∈ u_ws RX0 TX0 10, w ∈ GT := gt_all (by decide +kernel)
set_option maxRecDepth 100000 in
theorem u_in1 : ∀ w ∈ u_ws RX1 TX1 14, w ∈ GT := gt_all (by decide +kernel)
set_option maxRecDepth 100000 in
theorem u_in2 : ∀ w ∈ u_ws RX2 TX2 3, w ∈ GT := gt_all (by decide +kernel)
set_option maxRecDepth 100000 in
theorem u_in3 : ∀ w ∈ u_ws RX3 TX3 4, w ∈ GT := gt_all (by decide +kernel)
set_option maxRecDepth 100000 in
theorem u_in4 : ∀ w ∈ u_ws RX4 TX4 5, w ∈ GT := gt_all (by decide +kernel)
set_option maxRecDepth 100000 in
theorem u_in5 : ∀ w ∈ u_ws RX5 TX5 3, w ∈ GT := gt_all (by decide +kernel)
set_option maxRecDepth 100000 in
theorem u_in6 : ∀ w ∈ u_ws RX6 TX6 2, w ∈ GT := gt_all (by decide +kernel)
set_option maxRecDepth 100000 in
theorem u_in7 : ∀ w ∈ u_ws RX7 TX7 6, w ∈ GT := gt_all (by decide +kernel)
set_option maxRecDepth 100000 in
theorem u_in8 : ∀ w ∈ u_ws RX8 TX8 9, w ∈ GT := gt_all (by decide +kernel)
set_option maxRecDepth 100000 in
theorem u_in9 : ∀ w ∈ u_ws RX9 TX9 4, w ∈ GT := gt_all (by decide +kernel)
set_option maxRecDepth 100000 in
theorem u_in10 : ∀ w ∈ u_ws RX10 TX10 13, w ∈ GT := gt_all (by decide +kernel)
set_option maxRecDepth 100000 in
theorem u_in11 : ∀ w ∈ u_ws RX11 TX11 15, w ∈ GT := gt_all (by decide +kernel)
set_option maxRecDepth 100000 in
theorem u_in12 : ∀ w ∈ u_ws RX12 TX12 51, w ∈ GT := gt_all (by decide +kernel)
theorem p_0_0 : Pd_ TX0 10 0 true (.array .int) := ⟨⟨tyX0, tyX0_ok⟩, nmX0, rfl, by decide +kernel⟩
theorem p_0_1 : Pd_ TX0 10 1 true (.array .int) := ⟨⟨tyX0, tyX0_ok⟩, nmX0, rfl, by decide +kernel⟩
theorem p_0_2 : Pd_ TX0 10 2 true (.array .int) := ⟨⟨tyX0, tyX0_ok⟩, nmX0, rfl, by decide +kernel⟩
theorem p_0_3 : Pd_ TX0 10 3 true (.array .int) := ⟨⟨tyX0, tyX0_ok⟩, nmX0, rfl, by decide +kernel⟩
theorem p_0_4 : Pd_ TX0 10 4 false .int := ⟨⟨tyX0, tyX0_ok⟩, nmX0, rfl, by decide +kernel⟩
theorem p_0_5 : Pd_ TX0 10 5 false .boolean := ⟨⟨tyX0, tyX0_ok⟩, nmX0, rfl, by decide +kernel⟩
theorem p_0_6 : Pd_ TX0 10 6 false .int := ⟨⟨tyX0, tyX0_ok⟩, nmX0, rfl, by decide +kernel⟩
theorem p_0_7 : Pd_ TX0 10 7 false .int := ⟨⟨tyX0, tyX0_ok⟩, nmX0, rfl, by decide +kernel⟩
theorem p_0_8 : Pd_ TX0 10 8 false .int := ⟨⟨tyX0, tyX0_ok⟩, nmX0, rfl, by decide +kernel⟩
theorem p_0_9 : Pd_ TX0 10 9 false .int := ⟨⟨tyX0, tyX0_ok⟩, nmX0, rfl, by decide +kernel⟩
theorem p_1_0 : Pd_ TX1 14 0 true (.object "SecondHelpings$Table") := ⟨⟨tyX1, tyX1_ok⟩, nmX1, rfl, by decide +kernel⟩
theorem p_1_1 : Pd_ TX1 14 1 true (.array .int) := ⟨⟨tyX1, tyX1_ok⟩, nmX1, rfl, by decide +kernel⟩
theorem p_1_2 : Pd_ TX1 14 2 true (.array .int) := ⟨⟨tyX1, tyX1_ok⟩, nmX1, rfl, by decide +kernel⟩
theorem p_1_3 : Pd_ TX1 14 3 true (.array .int) := ⟨⟨tyX1, tyX1_ok⟩, nmX1, rfl, by decide +kernel⟩
theorem p_1_4 : Pd_ TX1 14 4 true (.array .int) := ⟨⟨tyX1, tyX1_ok⟩, nmX1, rfl, by decide +kernel⟩
theorem p_1_5 : Pd_ TX1 14 5 true (.array .int) := ⟨⟨tyX1, tyX1_ok⟩, nmX1, rfl, by decide +kernel⟩
theorem p_1_6 : Pd_ TX1 14 6 true (.array .int) := ⟨⟨tyX1, tyX1_ok⟩, nmX1, rfl, by decide +kernel⟩
theorem p_1_7 : Pd_ TX1 14 7 false .int := ⟨⟨tyX1, tyX1_ok⟩, nmX1, rfl, by decide +kernel⟩
theorem p_1_8 : Pd_ TX1 14 8 false .int := ⟨⟨tyX1, tyX1_ok⟩, nmX1, rfl, by decide +kernel⟩
theorem p_1_9 : Pd_ TX1 14 9 false .int := ⟨⟨tyX1, tyX1_ok⟩, nmX1, rfl, by decide +kernel⟩
theorem p_1_10 : Pd_ TX1 14 10 false .int := ⟨⟨tyX1, tyX1_ok⟩, nmX1, rfl, by decide +kernel⟩
theorem p_1_11 : Pd_ TX1 14 11 false .int := ⟨⟨tyX1, tyX1_ok⟩, nmX1, rfl, by decide +kernel⟩
theorem p_1_12 : Pd_ TX1 14 12 false .int := ⟨⟨tyX1, tyX1_ok⟩, nmX1, rfl, by decide +kernel⟩
theorem p_1_13 : Pd_ TX1 14 13 false .int := ⟨⟨tyX1, tyX1_ok⟩, nmX1, rfl, by decide +kernel⟩
theorem p_2_0 : Pd_ TX2 3 0 true (.array .int) := ⟨⟨tyX2, tyX2_ok⟩, nmX2, rfl, by decide +kernel⟩
theorem p_2_1 : Pd_ TX2 3 1 false .int := ⟨⟨tyX2, tyX2_ok⟩, nmX2, rfl, by decide +kernel⟩
theorem p_2_2 : Pd_ TX2 3 2 false .int := ⟨⟨tyX2, tyX2_ok⟩, nmX2, rfl, by decide +kernel⟩
theorem p_3_0 : Pd_ TX3 4 0 true (.object "SecondHelpings$Table") := ⟨⟨tyX3, tyX3_ok⟩, nmX3, rfl, by decide +kernel⟩
theorem p_3_1 : Pd_ TX3 4 1 true (.object "SecondHelpings$Course") := ⟨⟨tyX3, tyX3_ok⟩, nmX3, rfl, by decide +kernel⟩
theorem p_3_2 : Pd_ TX3 4 2 true (.object "SecondHelpings$Sentence") := ⟨⟨tyX3, tyX3_ok⟩, nmX3, rfl, by decide +kernel⟩
theorem p_3_3 : Pd_ TX3 4 3 false .boolean := ⟨⟨tyX3, tyX3_ok⟩, nmX3, rfl, by decide +kernel⟩
theorem p_4_0 : Pd_ TX4 5 0 true (.array (.object "SecondHelpings$Course")) := ⟨⟨tyX4, tyX4_ok⟩, nmX4, rfl, by decide +kernel⟩
theorem p_4_1 : Pd_ TX4 5 1 true (.array .int) := ⟨⟨tyX4, tyX4_ok⟩, nmX4, rfl, by decide +kernel⟩
theorem p_4_2 : Pd_ TX4 5 2 true (.array .int) := ⟨⟨tyX4, tyX4_ok⟩, nmX4, rfl, by decide +kernel⟩
theorem p_4_3 : Pd_ TX4 5 3 false .int := ⟨⟨tyX4, tyX4_ok⟩, nmX4, rfl, by decide +kernel⟩
theorem p_4_4 : Pd_ TX4 5 4 false .int := ⟨⟨tyX4, tyX4_ok⟩, nmX4, rfl, by decide +kernel⟩
theorem p_5_0 : Pd_ TX5 3 0 true (.array (.object "SecondHelpings$Course")) := ⟨⟨tyX5, tyX5_ok⟩, nmX5, rfl, by decide +kernel⟩
theorem p_5_1 : Pd_ TX5 3 1 false .int := ⟨⟨tyX5, tyX5_ok⟩, nmX5, rfl, by decide +kernel⟩
theorem p_5_2 : Pd_ TX5 3 2 false .int := ⟨⟨tyX5, tyX5_ok⟩, nmX5, rfl, by decide +kernel⟩
theorem p_6_0 : Pd_ TX6 2 0 true (.array .int) := ⟨⟨tyX6, tyX6_ok⟩, nmX6, rfl, by decide +kernel⟩
theorem p_6_1 : Pd_ TX6 2 1 false .int := ⟨⟨tyX6, tyX6_ok⟩, nmX6, rfl, by decide +kernel⟩
theorem p_7_0 : Pd_ TX7 6 0 true (.array .int) := ⟨⟨tyX7, tyX7_ok⟩, nmX7, rfl, by decide +kernel⟩
theorem p_7_1 : Pd_ TX7 6 1 true (.array .int) := ⟨⟨tyX7, tyX7_ok⟩, nmX7, rfl, by decide +kernel⟩
theorem p_7_2 : Pd_ TX7 6 2 true (.array .int) := ⟨⟨tyX7, tyX7_ok⟩, nmX7, rfl, by decide +kernel⟩
theorem p_7_3 : Pd_ TX7 6 3 true (.array .int) := ⟨⟨tyX7, tyX7_ok⟩, nmX7, rfl, by decide +kernel⟩
theorem p_7_4 : Pd_ TX7 6 4 false .int := ⟨⟨tyX7, tyX7_ok⟩, nmX7, rfl, by decide +kernel⟩
theorem p_7_5 : Pd_ TX7 6 5 false .int := ⟨⟨tyX7, tyX7_ok⟩, nmX7, rfl, by decide +kernel⟩
theorem p_8_0 : Pd_ TX8 9 0 true (.array .long) := ⟨⟨tyX8, tyX8_ok⟩, nmX8, rfl, by decide +kernel⟩
theorem p_8_1 : Pd_ TX8 9 1 true (.array .int) := ⟨⟨tyX8, tyX8_ok⟩, nmX8, rfl, by decide +kernel⟩
theorem p_8_2 : Pd_ TX8 9 2 true (.array .int) := ⟨⟨tyX8, tyX8_ok⟩, nmX8, rfl, by decide +kernel⟩
theorem p_8_3 : Pd_ TX8 9 3 true (.array .long) := ⟨⟨tyX8, tyX8_ok⟩, nmX8, rfl, by decide +kernel⟩
theorem p_8_4 : Pd_ TX8 9 4 true (.array .int) := ⟨⟨tyX8, tyX8_ok⟩, nmX8, rfl, by decide +kernel⟩
theorem p_8_5 : Pd_ TX8 9 5 false .int := ⟨⟨tyX8, tyX8_ok⟩, nmX8, rfl, by decide +kernel⟩
theorem p_8_6 : Pd_ TX8 9 6 false .int := ⟨⟨tyX8, tyX8_ok⟩, nmX8, rfl, by decide +kernel⟩
theorem p_8_7 : Pd_ TX8 9 7 false .int := ⟨⟨tyX8, tyX8_ok⟩, nmX8, rfl, by decide +kernel⟩
theorem p_8_8 : Pd_ TX8 9 8 false .int := ⟨⟨tyX8, tyX8_ok⟩, nmX8, rfl, by decide +kernel⟩
theorem p_9_0 : Pd_ TX9 4 0 true (.object "SecondHelpings$Table") := ⟨⟨tyX9, tyX9_ok⟩, nmX9, rfl, by decide +kernel⟩
theorem p_9_1 : Pd_ TX9 4 1 true (.object "SecondHelpings$Course") := ⟨⟨tyX9, tyX9_ok⟩, nmX9, rfl, by decide +kernel⟩
theorem p_9_2 : Pd_ TX9 4 2 false .boolean := ⟨⟨tyX9, tyX9_ok⟩, nmX9, rfl, by decide +kernel⟩
theorem p_9_3 : Pd_ TX9 4 3 false .boolean := ⟨⟨tyX9, tyX9_ok⟩, nmX9, rfl, by decide +kernel⟩
theorem p_10_0 : Pd_ TX10 13 0 true (.array .byte) := ⟨⟨tyX10, tyX10_ok⟩, nmX10, rfl, by decide +kernel⟩
theorem p_10_1 : Pd_ TX10 13 1 true (.array .long) := ⟨⟨tyX10, tyX10_ok⟩, nmX10, rfl, by decide +kernel⟩
theorem p_10_2 : Pd_ TX10 13 2 true (.array .int) := ⟨⟨tyX10, tyX10_ok⟩, nmX10, rfl, by decide +kernel⟩
theorem p_10_3 : Pd_ TX10 13 3 true (.array .int) := ⟨⟨tyX10, tyX10_ok⟩, nmX10, rfl, by decide +kernel⟩
theorem p_10_4 : Pd_ TX10 13 4 true (.array .long) := ⟨⟨tyX10, tyX10_ok⟩, nmX10, rfl, by decide +kernel⟩
theorem p_10_5 : Pd_ TX10 13 5 false .int := ⟨⟨tyX10, tyX10_ok⟩, nmX10, rfl, by decide +kernel⟩
theorem p_10_6 : Pd_ TX10 13 6 false .int := ⟨⟨tyX10, tyX10_ok⟩, nmX10, rfl, by decide +kernel⟩
theorem p_10_7 : Pd_ TX10 13 7 false .int := ⟨⟨tyX10, tyX10_ok⟩, nmX10, rfl, by decide +kernel⟩
theorem p_10_8 : Pd_ TX10 13 8 false .int := ⟨⟨tyX10, tyX10_ok⟩, nmX10, rfl, by decide +kernel⟩
theorem p_10_9 : Pd_ TX10 13 9 false .int := ⟨⟨tyX10, tyX10_ok⟩, nmX10, rfl, by decide +kernel⟩
theorem p_10_10 : Pd_ TX10 13 10 false .long := ⟨⟨tyX10, tyX10_ok⟩, nmX10, rfl, by decide +kernel⟩
theorem p_10_11 : Pd_ TX10 13 11 false .int := ⟨⟨tyX10, tyX10_ok⟩, nmX10, rfl, by decide +kernel⟩
theorem p_10_12 : Pd_ TX10 13 12 false .int := ⟨⟨tyX10, tyX10_ok⟩, nmX10, rfl, by decide +kernel⟩
theorem p_11_0 : Pd_ TX11 15 0 true (.object "SecondHelpings$Tape") := ⟨⟨tyX11, tyX11_ok⟩, nmX11, rfl, by decide +kernel⟩
theorem p_11_1 : Pd_ TX11 15 1 true (.object "SecondHelpings$Table") := ⟨⟨tyX11, tyX11_ok⟩, nmX11, rfl, by decide +kernel⟩
theorem p_11_2 : Pd_ TX11 15 2 true (.object "SecondHelpings$Course") := ⟨⟨tyX11, tyX11_ok⟩, nmX11, rfl, by decide +kernel⟩
theorem p_11_3 : Pd_ TX11 15 3 true (.object "SecondHelpings$Course") := ⟨⟨tyX11, tyX11_ok⟩, nmX11, rfl, by decide +kernel⟩
theorem p_11_4 : Pd_ TX11 15 4 true (.object "SecondHelpings$Past") := ⟨⟨tyX11, tyX11_ok⟩, nmX11, rfl, by decide +kernel⟩
theorem p_11_5 : Pd_ TX11 15 5 true (.object "SecondHelpings$TableReader") := ⟨⟨tyX11, tyX11_ok⟩, nmX11, rfl, by decide +kernel⟩
theorem p_11_6 : Pd_ TX11 15 6 true (.object "SecondHelpings$Book") := ⟨⟨tyX11, tyX11_ok⟩, nmX11, rfl, by decide +kernel⟩
theorem p_11_7 : Pd_ TX11 15 7 true (.object "SecondHelpings$Sentence") := ⟨⟨tyX11, tyX11_ok⟩, nmX11, rfl, by decide +kernel⟩
theorem p_11_8 : Pd_ TX11 15 8 true (.object "SecondHelpings$Sentence") := ⟨⟨tyX11, tyX11_ok⟩, nmX11, rfl, by decide +kernel⟩
theorem p_11_9 : Pd_ TX11 15 9 true (.object "SecondHelpings$Order") := ⟨⟨tyX11, tyX11_ok⟩, nmX11, rfl, by decide +kernel⟩
theorem p_11_10 : Pd_ TX11 15 10 true (.object "SecondHelpings$Seating") := ⟨⟨tyX11, tyX11_ok⟩, nmX11, rfl, by decide +kernel⟩
theorem p_11_11 : Pd_ TX11 15 11 true (.object "SecondHelpings$Guess") := ⟨⟨tyX11, tyX11_ok⟩, nmX11, rfl, by decide +kernel⟩
theorem p_11_12 : Pd_ TX11 15 12 true (.array (.object "SecondHelpings$Image")) := ⟨⟨tyX11, tyX11_ok⟩, nmX11, rfl, by decide +kernel⟩
theorem p_11_13 : Pd_ TX11 15 13 true (.array .byte) := ⟨⟨tyX11, tyX11_ok⟩, nmX11, rfl, by decide +kernel⟩
theorem p_11_14 : Pd_ TX11 15 14 false .int := ⟨⟨tyX11, tyX11_ok⟩, nmX11, rfl, by decide +kernel⟩
theorem p_12_0 : Pd_ TX12 51 0 false .int := ⟨⟨tyX12, tyX12_ok⟩, nmX12, rfl, by decide +kernel⟩
theorem p_12_1 : Pd_ TX12 51 1 true (.array .int) := ⟨⟨tyX12, tyX12_ok⟩, nmX12, rfl, by decide +kernel⟩
theorem p_12_2 : Pd_ TX12 51 2 false .int := ⟨⟨tyX12, tyX12_ok⟩, nmX12, rfl, by decide +kernel⟩
theorem p_12_3 : Pd_ TX12 51 3 false .int := ⟨⟨tyX12, tyX12_ok⟩, nmX12, rfl, by decide +kernel⟩
theorem p_12_4 : Pd_ TX12 51 4 false .int := ⟨⟨tyX12, tyX12_ok⟩, nmX12, rfl, by decide +kernel⟩
theorem p_12_5 : Pd_ TX12 51 5 false .int := ⟨⟨tyX12, tyX12_ok⟩, nmX12, rfl, by decide +kernel⟩
theorem p_12_6 : Pd_ TX12 51 6 false .int := ⟨⟨tyX12, tyX12_ok⟩, nmX12, rfl, by decide +kernel⟩
theorem p_12_7 : Pd_ TX12 51 7 false .int := ⟨⟨tyX12, tyX12_ok⟩, nmX12, rfl, by decide +kernel⟩
theorem p_12_8 : Pd_ TX12 51 8 false .int := ⟨⟨tyX12, tyX12_ok⟩, nmX12, rfl, by decide +kernel⟩
theorem p_12_9 : Pd_ TX12 51 9 false .int := ⟨⟨tyX12, tyX12_ok⟩, nmX12, rfl, by decide +kernel⟩
theorem p_12_10 : Pd_ TX12 51 10 false .int := ⟨⟨tyX12, tyX12_ok⟩, nmX12, rfl, by decide +kernel⟩
theorem p_12_11 : Pd_ TX12 51 11 false .int := ⟨⟨tyX12, tyX12_ok⟩, nmX12, rfl, by decide +kernel⟩
theorem p_12_12 : Pd_ TX12 51 12 false .long := ⟨⟨tyX12, tyX12_ok⟩, nmX12, rfl, by decide +kernel⟩
theorem p_12_13 : Pd_ TX12 51 13 false .int := ⟨⟨tyX12, tyX12_ok⟩, nmX12, rfl, by decide +kernel⟩
theorem p_12_14 : Pd_ TX12 51 14 true (.array .int) := ⟨⟨tyX12, tyX12_ok⟩, nmX12, rfl, by decide +kernel⟩
theorem p_12_15 : Pd_ TX12 51 15 true (.array .int) := ⟨⟨tyX12, tyX12_ok⟩, nmX12, rfl, by decide +kernel⟩
theorem p_12_16 : Pd_ TX12 51 16 true (.array .int) := ⟨⟨tyX12, tyX12_ok⟩, nmX12, rfl, by decide +kernel⟩
theorem p_12_17 : Pd_ TX12 51 17 true (.array .int) := ⟨⟨tyX12, tyX12_ok⟩, nmX12, rfl, by decide +kernel⟩
theorem p_12_18 : Pd_ TX12 51 18 true (.array .int) := ⟨⟨tyX12, tyX12_ok⟩, nmX12, rfl, by decide +kernel⟩
theorem p_12_19 : Pd_ TX12 51 19 true (.array .long) := ⟨⟨tyX12, tyX12_ok⟩, nmX12, rfl, by decide +kernel⟩
theorem p_12_20 : Pd_ TX12 51 20 true (.array .long) := ⟨⟨tyX12, tyX12_ok⟩, nmX12, rfl, by decide +kernel⟩
theorem p_12_21 : Pd_ TX12 51 21 true (.array .long) := ⟨⟨tyX12, tyX12_ok⟩, nmX12, rfl, by decide +kernel⟩
theorem p_12_22 : Pd_ TX12 51 22 true (.array .boolean) := ⟨⟨tyX12, tyX12_ok⟩, nmX12, rfl, by decide +kernel⟩
theorem p_12_23 : Pd_ TX12 51 23 false .int := ⟨⟨tyX12, tyX12_ok⟩, nmX12, rfl, by decide +kernel⟩
theorem p_12_24 : Pd_ TX12 51 24 false .boolean := ⟨⟨tyX12, tyX12_ok⟩, nmX12, rfl, by decide +kernel⟩
theorem p_12_25 : Pd_ TX12 51 25 false .boolean := ⟨⟨tyX12, tyX12_ok⟩, nmX12, rfl, by decide +kernel⟩
theorem p_12_26 : Pd_ TX12 51 26 true (.array .int) := ⟨⟨tyX12, tyX12_ok⟩, nmX12, rfl, by decide +kernel⟩
theorem p_12_27 : Pd_ TX12 51 27 true (.array .int) := ⟨⟨tyX12, tyX12_ok⟩, nmX12, rfl, by decide +kernel⟩
theorem p_12_28 : Pd_ TX12 51 28 true (.array .int) := ⟨⟨tyX12, tyX12_ok⟩, nmX12, rfl, by decide +kernel⟩
theorem p_12_29 : Pd_ TX12 51 29 false .int := ⟨⟨tyX12, tyX12_ok⟩, nmX12, rfl, by decide +kernel⟩
theorem p_12_30 : Pd_ TX12 51 30 false .int := ⟨⟨tyX12, tyX12_ok⟩, nmX12, rfl, by decide +kernel⟩
theorem p_12_31 : Pd_ TX12 51 31 true (.array .int) := ⟨⟨tyX12, tyX12_ok⟩, nmX12, rfl, by decide +kernel⟩
theorem p_12_32 : Pd_ TX12 51 32 false .int := ⟨⟨tyX12, tyX12_ok⟩, nmX12, rfl, by decide +kernel⟩
theorem p_12_33 : Pd_ TX12 51 33 false .int := ⟨⟨tyX12, tyX12_ok⟩, nmX12, rfl, by decide +kernel⟩
theorem p_12_34 : Pd_ TX12 51 34 true (.array .boolean) := ⟨⟨tyX12, tyX12_ok⟩, nmX12, rfl, by decide +kernel⟩
theorem p_12_35 : Pd_ TX12 51 35 true (.array .int) := ⟨⟨tyX12, tyX12_ok⟩, nmX12, rfl, by decide +kernel⟩
theorem p_12_36 : Pd_ TX12 51 36 true (.array .int) := ⟨⟨tyX12, tyX12_ok⟩, nmX12, rfl, by decide +kernel⟩
theorem p_12_37 : Pd_ TX12 51 37 false .int := ⟨⟨tyX12, tyX12_ok⟩, nmX12, rfl, by decide +kernel⟩
theorem p_12_38 : Pd_ TX12 51 38 false .int := ⟨⟨tyX12, tyX12_ok⟩, nmX12, rfl, by decide +kernel⟩
theorem p_12_39 : Pd_ TX12 51 39 true (.array .int) := ⟨⟨tyX12, tyX12_ok⟩, nmX12, rfl, by decide +kernel⟩
theorem p_12_40 : Pd_ TX12 51 40 false .int := ⟨⟨tyX12, tyX12_ok⟩, nmX12, rfl, by decide +kernel⟩
theorem p_12_41 : Pd_ TX12 51 41 false .int := ⟨⟨tyX12, tyX12_ok⟩, nmX12, rfl, by decide +kernel⟩
theorem p_12_42 : Pd_ TX12 51 42 true (.array .int) := ⟨⟨tyX12, tyX12_ok⟩, nmX12, rfl, by decide +kernel⟩
theorem p_12_43 : Pd_ TX12 51 43 true (.array .int) := ⟨⟨tyX12, tyX12_ok⟩, nmX12, rfl, by decide +kernel⟩
theorem p_12_44 : Pd_ TX12 51 44 false .int := ⟨⟨tyX12, tyX12_ok⟩, nmX12, rfl, by decide +kernel⟩
theorem p_12_45 : Pd_ TX12 51 45 false .boolean := ⟨⟨tyX12, tyX12_ok⟩, nmX12, rfl, by decide +kernel⟩
theorem p_12_46 : Pd_ TX12 51 46 true (.array .int) := ⟨⟨tyX12, tyX12_ok⟩, nmX12, rfl, by decide +kernel⟩
theorem p_12_47 : Pd_ TX12 51 47 false .int := ⟨⟨tyX12, tyX12_ok⟩, nmX12, rfl, by decide +kernel⟩
theorem p_12_48 : Pd_ TX12 51 48 false .int := ⟨⟨tyX12, tyX12_ok⟩, nmX12, rfl, by decide +kernel⟩
theorem p_12_49 : Pd_ TX12 51 49 false .int := ⟨⟨tyX12, tyX12_ok⟩, nmX12, rfl, by decide +kernel⟩
theorem p_12_50 : Pd_ TX12 51 50 false .int := ⟨⟨tyX12, tyX12_ok⟩, nmX12, rfl, by decide +kernel⟩
theorem f_10_9 : Fd_ RX10 9 10 0 2 RX10 TX10 13 := ⟨by decide, rfl, by decide, rfl, u_in10, gt_in 195 (by decide +kernel) (by decide +kernel)⟩
theorem f_10_15 : Fd_ RX10 15 10 1 2 RX10 TX10 13 := ⟨by decide, rfl, by decide, rfl, u_in10, gt_in 196 (by decide +kernel) (by decide +kernel)⟩
theorem f_10_19 : Fd_ RX10 19 10 2 2 RX10 TX10 13 := ⟨by decide, rfl, by decide, rfl, u_in10, gt_in 197 (by decide +kernel) (by decide +kernel)⟩
theorem f_10_23 : Fd_ RX10 23 10 3 2 RX10 TX10 13 := ⟨by decide, rfl, by decide, rfl, u_in10, gt_in 198 (by decide +kernel) (by decide +kernel)⟩
theorem f_10_26 : Fd_ RX10 26 10 4 2 RX10 TX10 13 := ⟨by decide, rfl, by decide, rfl, u_in10, gt_in 199 (by decide +kernel) (by decide +kernel)⟩
theorem f_10_29 : Fd_ RX10 29 10 5 0 RX10 TX10 13 := ⟨by decide, rfl, by decide, rfl, u_in10, gt_in 200 (by decide +kernel) (by decide +kernel)⟩
theorem f_11_102 : Fd_ RX11 102 10 5 0 RX10 TX10 13 := ⟨by decide, rfl, by decide, rfl, u_in10, gt_in 201 (by decide +kernel) (by decide +kernel)⟩
theorem f_10_33 : Fd_ RX10 33 10 6 0 RX10 TX10 13 := ⟨by decide, rfl, by decide, rfl, u_in10, gt_in 202 (by decide +kernel) (by decide +kernel)⟩
theorem f_10_36 : Fd_ RX10 36 10 7 0 RX10 TX10 13 := ⟨by decide, rfl, by decide, rfl, u_in10, gt_in 203 (by decide +kernel) (by decide +kernel)⟩
theorem f_10_39 : Fd_ RX10 39 10 8 0 RX10 TX10 13 := ⟨by decide, rfl, by decide, rfl, u_in10, gt_in 204 (by decide +kernel) (by decide +kernel)⟩
theorem f_0_50 : Fd_ RX0 50 10 8 0 RX10 TX10 13 := ⟨by decide, rfl, by decide, rfl, u_in10, gt_in 205 (by decide +kernel) (by decide +kernel)⟩
theorem f_9_44 : Fd_ RX9 44 10 8 0 RX10 TX10 13 := ⟨by decide, rfl, by decide, rfl, u_in10, gt_in 206 (by decide +kernel) (by decide +kernel)⟩
theorem f_7_57 : Fd_ RX7 57 10 8 0 RX10 TX10 13 := ⟨by decide, rfl, by decide, rfl, u_in10, gt_in 207 (by decide +kernel) (by decide +kernel)⟩
theorem f_10_42 : Fd_ RX10 42 10 9 0 RX10 TX10 13 := ⟨by decide, rfl, by decide, rfl, u_in10, gt_in 208 (by decide +kernel) (by decide +kernel)⟩
theorem f_10_45 : Fd_ RX10 45 10 10 1 RX10 TX10 13 := ⟨by decide, rfl, by decide, rfl, u_in10, gt_in 209 (by decide +kernel) (by decide +kernel)⟩
theorem f_0_61 : Fd_ RX0 61 10 10 1 RX10 TX10 13 := ⟨by decide, rfl, by decide, rfl, u_in10, gt_in 210 (by decide +kernel) (by decide +kernel)⟩
theorem f_9_71 : Fd_ RX9 71 10 10 1 RX10 TX10 13 := ⟨by decide, rfl, by decide, rfl, u_in10, gt_in 211 (by decide +kernel) (by decide +kernel)⟩
theorem f_7_79 : Fd_ RX7 79 10 10 1 RX10 TX10 13 := ⟨by decide, rfl, by decide, rfl, u_in10, gt_in 212 (by decide +kernel) (by decide +kernel)⟩
theorem f_10_49 : Fd_ RX10 49 10 11 0 RX10 TX10 13 := ⟨by decide, rfl, by decide, rfl, u_in10, gt_in 213 (by decide +kernel) (by decide +kernel)⟩
theorem f_11_113 : Fd_ RX11 113 10 11 0 RX10 TX10 13 := ⟨by decide, rfl, by decide, rfl, u_in10, gt_in 214 (by decide +kernel) (by decide +kernel)⟩
theorem f_10_52 : Fd_ RX10 52 10 12 0 RX10 TX10 13 := ⟨by decide, rfl, by decide, rfl, u_in10, gt_in 215 (by decide +kernel) (by decide +kernel)⟩
theorem f_11_116 : Fd_ RX11 116 10 12 0 RX10 TX10 13 := ⟨by decide, rfl, by decide, rfl, u_in10, gt_in 216 (by decide +kernel) (by decide +kernel)⟩
theorem f_8_9 : Fd_ RX8 9 8 0 2 RX8 TX8 9 := ⟨by decide, rfl, by decide, rfl, u_in8, gt_in 253 (by decide +kernel) (by decide +kernel)⟩
theorem f_9_99 : Fd_ RX9 99 8 0 2 RX8 TX8 9 := ⟨by decide, rfl, by decide, rfl, u_in8, gt_in 254 (by decide +kernel) (by decide +kernel)⟩
theorem f_11_304 : Fd_ RX11 304 8 0 2 RX8 TX8 9 := ⟨by decide, rfl, by decide, rfl, u_in8, gt_in 255 (by decide +kernel) (by decide +kernel)⟩
theorem f_8_15 : Fd_ RX8 15 8 1 2 RX8 TX8 9 := ⟨by decide, rfl, by decide, rfl, u_in8, gt_in 256 (by decide +kernel) (by decide +kernel)⟩
theorem f_9_103 : Fd_ RX9 103 8 1 2 RX8 TX8 9 := ⟨by decide, rfl, by decide, rfl, u_in8, gt_in 257 (by decide +kernel) (by decide +kernel)⟩
theorem f_11_144 : Fd_ RX11 144 8 1 2 RX8 TX8 9 := ⟨by decide, rfl, by decide, rfl, u_in8, gt_in 258 (by decide +kernel) (by decide +kernel)⟩
theorem f_1_75 : Fd_ RX1 75 8 1 2 RX8 TX8 9 := ⟨by decide, rfl, by decide, rfl, u_in8, gt_in 259 (by decide +kernel) (by decide +kernel)⟩
theorem f_7_136 : Fd_ RX7 136 8 1 2 RX8 TX8 9 := ⟨by decide, rfl, by decide, rfl, u_in8, gt_in 260 (by decide +kernel) (by decide +kernel)⟩
theorem f_8_19 : Fd_ RX8 19 8 2 2 RX8 TX8 9 := ⟨by decide, rfl, by decide, rfl, u_in8, gt_in 261 (by decide +kernel) (by decide +kernel)⟩
theorem f_6_45 : Fd_ RX6 45 8 2 2 RX8 TX8 9 := ⟨by decide, rfl, by decide, rfl, u_in8, gt_in 262 (by decide +kernel) (by decide +kernel)⟩
theorem f_9_107 : Fd_ RX9 107 8 2 2 RX8 TX8 9 := ⟨by decide, rfl, by decide, rfl, u_in8, gt_in 263 (by decide +kernel) (by decide +kernel)⟩
theorem f_11_148 : Fd_ RX11 148 8 2 2 RX8 TX8 9 := ⟨by decide, rfl, by decide, rfl, u_in8, gt_in 264 (by decide +kernel) (by decide +kernel)⟩
theorem f_7_130 : Fd_ RX7 130 8 2 2 RX8 TX8 9 := ⟨by decide, rfl, by decide, rfl, u_in8, gt_in 265 (by decide +kernel) (by decide +kernel)⟩
theorem f_8_22 : Fd_ RX8 22 8 3 2 RX8 TX8 9 := ⟨by decide, rfl, by decide, rfl, u_in8, gt_in 266 (by decide +kernel) (by decide +kernel)⟩
theorem f_9_116 : Fd_ RX9 116 8 3 2 RX8 TX8 9 := ⟨by decide, rfl, by decide, rfl, u_in8, gt_in 267 (by decide +kernel) (by decide +kernel)⟩
theorem f_8_25 : Fd_ RX8 25 8 4 2 RX8 TX8 9 := ⟨by decide, rfl, by decide, rfl, u_in8, gt_in 268 (by decide +kernel) (by decide +kernel)⟩
theorem f_9_119 : Fd_ RX9 119 8 4 2 RX8 TX8 9 := ⟨by decide, rfl, by decide, rfl, u_in8, gt_in 269 (by decide +kernel) (by decide +kernel)⟩
theorem f_11_185 : Fd_ RX11 185 8 4 2 RX8 TX8 9 := ⟨by decide, rfl, by decide, rfl, u_in8, gt_in 270 (by decide +kernel) (by decide +kernel)⟩
theorem f_1_123 : Fd_ RX1 123 8 4 2 RX8 TX8 9 := ⟨by decide, rfl, by decide, rfl, u_in8, gt_in 271 (by decide +kernel) (by decide +kernel)⟩
theorem f_8_28 : Fd_ RX8 28 8 5 0 RX8 TX8 9 := ⟨by decide, rfl, by decide, rfl, u_in8, gt_in 272 (by decide +kernel) (by decide +kernel)⟩
theorem f_6_33 : Fd_ RX6 33 8 5 0 RX8 TX8 9 := ⟨by decide, rfl, by decide, rfl, u_in8, gt_in 273 (by decide +kernel) (by decide +kernel)⟩
theorem f_2_42 : Fd_ RX2 42 8 5 0 RX8 TX8 9 := ⟨by decide, rfl, by decide, rfl, u_in8, gt_in 274 (by decide +kernel) (by decide +kernel)⟩
theorem f_4_76 : Fd_ RX4 76 8 5 0 RX8 TX8 9 := ⟨by decide, rfl, by decide, rfl, u_in8, gt_in 275 (by decide +kernel) (by decide +kernel)⟩
theorem f_9_85 : Fd_ RX9 85 8 5 0 RX8 TX8 9 := ⟨by decide, rfl, by decide, rfl, u_in8, gt_in 276 (by decide +kernel) (by decide +kernel)⟩
theorem f_1_68 : Fd_ RX1 68 8 5 0 RX8 TX8 9 := ⟨by decide, rfl, by decide, rfl, u_in8, gt_in 277 (by decide +kernel) (by decide +kernel)⟩
theorem f_11_213 : Fd_ RX11 213 8 5 0 RX8 TX8 9 := ⟨by decide, rfl, by decide, rfl, u_in8, gt_in 278 (by decide +kernel) (by decide +kernel)⟩
theorem f_7_114 : Fd_ RX7 114 8 5 0 RX8 TX8 9 := ⟨by decide, rfl, by decide, rfl, u_in8, gt_in 279 (by decide +kernel) (by decide +kernel)⟩
theorem f_8_32 : Fd_ RX8 32 8 6 0 RX8 TX8 9 := ⟨by decide, rfl, by decide, rfl, u_in8, gt_in 280 (by decide +kernel) (by decide +kernel)⟩
theorem f_9_113 : Fd_ RX9 113 8 6 0 RX8 TX8 9 := ⟨by decide, rfl, by decide, rfl, u_in8, gt_in 281 (by decide +kernel) (by decide +kernel)⟩
theorem f_11_216 : Fd_ RX11 216 8 6 0 RX8 TX8 9 := ⟨by decide, rfl, by decide, rfl, u_in8, gt_in 282 (by decide +kernel) (by decide +kernel)⟩
theorem f_1_97 : Fd_ RX1 97 8 6 0 RX8 TX8 9 := ⟨by decide, rfl, by decide, rfl, u_in8, gt_in 283 (by decide +kernel) (by decide +kernel)⟩
theorem f_8_35 : Fd_ RX8 35 8 7 0 RX8 TX8 9 := ⟨by decide, rfl, by decide, rfl, u_in8, gt_in 284 (by decide +kernel) (by decide +kernel)⟩
theorem f_9_132 : Fd_ RX9 132 8 7 0 RX8 TX8 9 := ⟨by decide, rfl, by decide, rfl, u_in8, gt_in 285 (by decide +kernel) (by decide +kernel)⟩
theorem f_11_219 : Fd_ RX11 219 8 7 0 RX8 TX8 9 := ⟨by decide, rfl, by decide, rfl, u_in8, gt_in 286 (by decide +kernel) (by decide +kernel)⟩
theorem f_1_78 : Fd_ RX1 78 8 7 0 RX8 TX8 9 := ⟨by decide, rfl, by decide, rfl, u_in8, gt_in 287 (by decide +kernel) (by decide +kernel)⟩
theorem f_8_38 : Fd_ RX8 38 8 8 0 RX8 TX8 9 := ⟨by decide, rfl, by decide, rfl, u_in8, gt_in 288 (by decide +kernel) (by decide +kernel)⟩
theorem f_9_135 : Fd_ RX9 135 8 8 0 RX8 TX8 9 := ⟨by decide, rfl, by decide, rfl, u_in8, gt_in 289 (by decide +kernel) (by decide +kernel)⟩
theorem f_11_222 : Fd_ RX11 222 8 8 0 RX8 TX8 9 := ⟨by decide, rfl, by decide, rfl, u_in8, gt_in 290 (by decide +kernel) (by decide +kernel)⟩
theorem f_1_94 : Fd_ RX1 94 8 8 0 RX8 TX8 9 := ⟨by decide, rfl, by decide, rfl, u_in8, gt_in 291 (by decide +kernel) (by decide +kernel)⟩
theorem f_1_52 : Fd_ RX1 52 1 0 2 RX1 TX1 14 := ⟨by decide, rfl, by decide, rfl, u_in1, gt_in 317 (by decide +kernel) (by decide +kernel)⟩
theorem f_2_22 : Fd_ RX2 22 1 0 2 RX1 TX1 14 := ⟨by decide, rfl, by decide, rfl, u_in1, gt_in 318 (by decide +kernel) (by decide +kernel)⟩
theorem f_6_19 : Fd_ RX6 19 1 0 2 RX1 TX1 14 := ⟨by decide, rfl, by decide, rfl, u_in1, gt_in 319 (by decide +kernel) (by decide +kernel)⟩
theorem f_4_72 : Fd_ RX4 72 1 0 2 RX1 TX1 14 := ⟨by decide, rfl, by decide, rfl, u_in1, gt_in 320 (by decide +kernel) (by decide +kernel)⟩
theorem f_7_100 : Fd_ RX7 100 1 0 2 RX1 TX1 14 := ⟨by decide, rfl, by decide, rfl, u_in1, gt_in 321 (by decide +kernel) (by decide +kernel)⟩
theorem f_1_9 : Fd_ RX1 9 1 1 2 RX1 TX1 14 := ⟨by decide, rfl, by decide, rfl, u_in1, gt_in 322 (by decide +kernel) (by decide +kernel)⟩
theorem f_9_122 : Fd_ RX9 122 1 1 2 RX1 TX1 14 := ⟨by decide, rfl, by decide, rfl, u_in1, gt_in 323 (by decide +kernel) (by decide +kernel)⟩
theorem f_11_182 : Fd_ RX11 182 1 1 2 RX1 TX1 14 := ⟨by decide, rfl, by decide, rfl, u_in1, gt_in 324 (by decide +kernel) (by decide +kernel)⟩
theorem f_1_15 : Fd_ RX1 15 1 2 2 RX1 TX1 14 := ⟨by decide, rfl, by decide, rfl, u_in1, gt_in 325 (by decide +kernel) (by decide +kernel)⟩
theorem f_1_18 : Fd_ RX1 18 1 3 2 RX1 TX1 14 := ⟨by decide, rfl, by decide, rfl, u_in1, gt_in 326 (by decide +kernel) (by decide +kernel)⟩
theorem f_4_81 : Fd_ RX4 81 1 3 2 RX1 TX1 14 := ⟨by decide, rfl, by decide, rfl, u_in1, gt_in 327 (by decide +kernel) (by decide +kernel)⟩
theorem f_11_166 : Fd_ RX11 166 1 3 2 RX1 TX1 14 := ⟨by decide, rfl, by decide, rfl, u_in1, gt_in 328 (by decide +kernel) (by decide +kernel)⟩
theorem f_7_127 : Fd_ RX7 127 1 3 2 RX1 TX1 14 := ⟨by decide, rfl, by decide, rfl, u_in1, gt_in 329 (by decide +kernel) (by decide +kernel)⟩
theorem f_1_21 : Fd_ RX1 21 1 4 2 RX1 TX1 14 := ⟨by decide, rfl, by decide, rfl, u_in1, gt_in 330 (by decide +kernel) (by decide +kernel)⟩
theorem f_11_157 : Fd_ RX11 157 1 4 2 RX1 TX1 14 := ⟨by decide, rfl, by decide, rfl, u_in1, gt_in 331 (by decide +kernel) (by decide +kernel)⟩
theorem f_7_143 : Fd_ RX7 143 1 4 2 RX1 TX1 14 := ⟨by decide, rfl, by decide, rfl, u_in1, gt_in 332 (by decide +kernel) (by decide +kernel)⟩
theorem f_1_24 : Fd_ RX1 24 1 5 2 RX1 TX1 14 := ⟨by decide, rfl, by decide, rfl, u_in1, gt_in 333 (by decide +kernel) (by decide +kernel)⟩
theorem f_11_160 : Fd_ RX11 160 1 5 2 RX1 TX1 14 := ⟨by decide, rfl, by decide, rfl, u_in1, gt_in 334 (by decide +kernel) (by decide +kernel)⟩
theorem f_1_27 : Fd_ RX1 27 1 6 2 RX1 TX1 14 := ⟨by decide, rfl, by decide, rfl, u_in1, gt_in 335 (by decide +kernel) (by decide +kernel)⟩
theorem f_11_163 : Fd_ RX11 163 1 6 2 RX1 TX1 14 := ⟨by decide, rfl, by decide, rfl, u_in1, gt_in 336 (by decide +kernel) (by decide +kernel)⟩
theorem f_7_146 : Fd_ RX7 146 1 6 2 RX1 TX1 14 := ⟨by decide, rfl, by decide, rfl, u_in1, gt_in 337 (by decide +kernel) (by decide +kernel)⟩
theorem f_1_30 : Fd_ RX1 30 1 7 0 RX1 TX1 14 := ⟨by decide, rfl, by decide, rfl, u_in1, gt_in 338 (by decide +kernel) (by decide +kernel)⟩
theorem f_0_103 : Fd_ RX0 103 1 7 0 RX1 TX1 14 := ⟨by decide, rfl, by decide, rfl, u_in1, gt_in 339 (by decide +kernel) (by decide +kernel)⟩
theorem f_11_151 : Fd_ RX11 151 1 7 0 RX1 TX1 14 := ⟨by decide, rfl, by decide, rfl, u_in1, gt_in 340 (by decide +kernel) (by decide +kernel)⟩
theorem f_1_34 : Fd_ RX1 34 1 8 0 RX1 TX1 14 := ⟨by decide, rfl, by decide, rfl, u_in1, gt_in 341 (by decide +kernel) (by decide +kernel)⟩
theorem f_11_154 : Fd_ RX11 154 1 8 0 RX1 TX1 14 := ⟨by decide, rfl, by decide, rfl, u_in1, gt_in 342 (by decide +kernel) (by decide +kernel)⟩
theorem f_7_124 : Fd_ RX7 124 1 8 0 RX1 TX1 14 := ⟨by decide, rfl, by decide, rfl, u_in1, gt_in 343 (by decide +kernel) (by decide +kernel)⟩
theorem f_1_37 : Fd_ RX1 37 1 9 0 RX1 TX1 14 := ⟨by decide, rfl, by decide, rfl, u_in1, gt_in 344 (by decide +kernel) (by decide +kernel)⟩
theorem f_0_98 : Fd_ RX0 98 1 9 0 RX1 TX1 14 := ⟨by decide, rfl, by decide, rfl, u_in1, gt_in 345 (by decide +kernel) (by decide +kernel)⟩
theorem f_11_195 : Fd_ RX11 195 1 9 0 RX1 TX1 14 := ⟨by decide, rfl, by decide, rfl, u_in1, gt_in 346 (by decide +kernel) (by decide +kernel)⟩
theorem f_1_40 : Fd_ RX1 40 1 10 0 RX1 TX1 14 := ⟨by decide, rfl, by decide, rfl, u_in1, gt_in 347 (by decide +kernel) (by decide +kernel)⟩
theorem f_11_198 : Fd_ RX11 198 1 10 0 RX1 TX1 14 := ⟨by decide, rfl, by decide, rfl, u_in1, gt_in 348 (by decide +kernel) (by decide +kernel)⟩
theorem f_1_43 : Fd_ RX1 43 1 11 0 RX1 TX1 14 := ⟨by decide, rfl, by decide, rfl, u_in1, gt_in 349 (by decide +kernel) (by decide +kernel)⟩
theorem f_11_201 : Fd_ RX11 201 1 11 0 RX1 TX1 14 := ⟨by decide, rfl, by decide, rfl, u_in1, gt_in 350 (by decide +kernel) (by decide +kernel)⟩
theorem f_1_46 : Fd_ RX1 46 1 12 0 RX1 TX1 14 := ⟨by decide, rfl, by decide, rfl, u_in1, gt_in 351 (by decide +kernel) (by decide +kernel)⟩
theorem f_11_210 : Fd_ RX11 210 1 12 0 RX1 TX1 14 := ⟨by decide, rfl, by decide, rfl, u_in1, gt_in 352 (by decide +kernel) (by decide +kernel)⟩
theorem f_1_49 : Fd_ RX1 49 1 13 0 RX1 TX1 14 := ⟨by decide, rfl, by decide, rfl, u_in1, gt_in 353 (by decide +kernel) (by decide +kernel)⟩
theorem f_5_13 : Fd_ RX5 13 5 0 2 RX5 TX5 3 := ⟨by decide, rfl, by decide, rfl, u_in5, gt_in 392 (by decide +kernel) (by decide +kernel)⟩
theorem f_5_17 : Fd_ RX5 17 5 1 0 RX5 TX5 3 := ⟨by decide, rfl, by decide, rfl, u_in5, gt_in 393 (by decide +kernel) (by decide +kernel)⟩
theorem f_5_21 : Fd_ RX5 21 5 2 0 RX5 TX5 3 := ⟨by decide, rfl, by decide, rfl, u_in5, gt_in 394 (by decide +kernel) (by decide +kernel)⟩
theorem f_9_12 : Fd_ RX9 12 9 0 2 RX9 TX9 4 := ⟨by decide, rfl, by decide, rfl, u_in9, gt_in 412 (by decide +kernel) (by decide +kernel)⟩
theorem f_11_119 : Fd_ RX11 119 9 0 2 RX9 TX9 4 := ⟨by decide, rfl, by decide, rfl, u_in9, gt_in 413 (by decide +kernel) (by decide +kernel)⟩
theorem f_9_23 : Fd_ RX9 23 9 1 2 RX9 TX9 4 := ⟨by decide, rfl, by decide, rfl, u_in9, gt_in 414 (by decide +kernel) (by decide +kernel)⟩
theorem f_11_123 : Fd_ RX11 123 9 1 2 RX9 TX9 4 := ⟨by decide, rfl, by decide, rfl, u_in9, gt_in 415 (by decide +kernel) (by decide +kernel)⟩
theorem f_9_27 : Fd_ RX9 27 9 2 0 RX9 TX9 4 := ⟨by decide, rfl, by decide, rfl, u_in9, gt_in 416 (by decide +kernel) (by decide +kernel)⟩
theorem f_9_31 : Fd_ RX9 31 9 3 0 RX9 TX9 4 := ⟨by decide, rfl, by decide, rfl, u_in9, gt_in 417 (by decide +kernel) (by decide +kernel)⟩
theorem f_0_11 : Fd_ RX0 11 0 0 2 RX0 TX0 10 := ⟨by decide, rfl, by decide, rfl, u_in0, gt_in 433 (by decide +kernel) (by decide +kernel)⟩
theorem f_0_15 : Fd_ RX0 15 0 1 2 RX0 TX0 10 := ⟨by decide, rfl, by decide, rfl, u_in0, gt_in 434 (by decide +kernel) (by decide +kernel)⟩
theorem f_0_18 : Fd_ RX0 18 0 2 2 RX0 TX0 10 := ⟨by decide, rfl, by decide, rfl, u_in0, gt_in 435 (by decide +kernel) (by decide +kernel)⟩
theorem f_0_21 : Fd_ RX0 21 0 3 2 RX0 TX0 10 := ⟨by decide, rfl, by decide, rfl, u_in0, gt_in 436 (by decide +kernel) (by decide +kernel)⟩
theorem f_0_24 : Fd_ RX0 24 0 4 0 RX0 TX0 10 := ⟨by decide, rfl, by decide, rfl, u_in0, gt_in 437 (by decide +kernel) (by decide +kernel)⟩
theorem f_0_28 : Fd_ RX0 28 0 5 0 RX0 TX0 10 := ⟨by decide, rfl, by decide, rfl, u_in0, gt_in 438 (by decide +kernel) (by decide +kernel)⟩
theorem f_11_352 : Fd_ RX11 352 0 5 0 RX0 TX0 10 := ⟨by decide, rfl, by decide, rfl, u_in0, gt_in 439 (by decide +kernel) (by decide +kernel)⟩
theorem f_0_32 : Fd_ RX0 32 0 6 0 RX0 TX0 10 := ⟨by decide, rfl, by decide, rfl, u_in0, gt_in 440 (by decide +kernel) (by decide +kernel)⟩
theorem f_11_346 : Fd_ RX11 346 0 6 0 RX0 TX0 10 := ⟨by decide, rfl, by decide, rfl, u_in0, gt_in 441 (by decide +kernel) (by decide +kernel)⟩
theorem f_0_35 : Fd_ RX0 35 0 7 0 RX0 TX0 10 := ⟨by decide, rfl, by decide, rfl, u_in0, gt_in 442 (by decide +kernel) (by decide +kernel)⟩
theorem f_11_349 : Fd_ RX11 349 0 7 0 RX0 TX0 10 := ⟨by decide, rfl, by decide, rfl, u_in0, gt_in 443 (by decide +kernel) (by decide +kernel)⟩
theorem f_0_38 : Fd_ RX0 38 0 8 0 RX0 TX0 10 := ⟨by decide, rfl, by decide, rfl, u_in0, gt_in 444 (by decide +kernel) (by decide +kernel)⟩
theorem f_11_356 : Fd_ RX11 356 0 8 0 RX0 TX0 10 := ⟨by decide, rfl, by decide, rfl, u_in0, gt_in 445 (by decide +kernel) (by decide +kernel)⟩
theorem f_0_41 : Fd_ RX0 41 0 9 0 RX0 TX0 10 := ⟨by decide, rfl, by decide, rfl, u_in0, gt_in 446 (by decide +kernel) (by decide +kernel)⟩
theorem f_11_359 : Fd_ RX11 359 0 9 0 RX0 TX0 10 := ⟨by decide, rfl, by decide, rfl, u_in0, gt_in 447 (by decide +kernel) (by decide +kernel)⟩
theorem f_7_11 : Fd_ RX7 11 7 0 2 RX7 TX7 6 := ⟨by decide, rfl, by decide, rfl, u_in7, gt_in 475 (by decide +kernel) (by decide +kernel)⟩
theorem f_7_15 : Fd_ RX7 15 7 1 2 RX7 TX7 6 := ⟨by decide, rfl, by decide, rfl, u_in7, gt_in 476 (by decide +kernel) (by decide +kernel)⟩
theorem f_7_18 : Fd_ RX7 18 7 2 2 RX7 TX7 6 := ⟨by decide, rfl, by decide, rfl, u_in7, gt_in 477 (by decide +kernel) (by decide +kernel)⟩
theorem f_7_21 : Fd_ RX7 21 7 3 2 RX7 TX7 6 := ⟨by decide, rfl, by decide, rfl, u_in7, gt_in 478 (by decide +kernel) (by decide +kernel)⟩
theorem f_7_24 : Fd_ RX7 24 7 4 0 RX7 TX7 6 := ⟨by decide, rfl, by decide, rfl, u_in7, gt_in 479 (by decide +kernel) (by decide +kernel)⟩
theorem f_7_28 : Fd_ RX7 28 7 5 0 RX7 TX7 6 := ⟨by decide, rfl, by decide, rfl, u_in7, gt_in 480 (by decide +kernel) (by decide +kernel)⟩
theorem f_11_368 : Fd_ RX11 368 7 5 0 RX7 TX7 6 := ⟨by decide, rfl, by decide, rfl, u_in7, gt_in 481 (by decide +kernel) (by decide +kernel)⟩
theorem f_4_11 : Fd_ RX4 11 4 0 2 RX4 TX4 5 := ⟨by decide, rfl, by decide, rfl, u_in4, gt_in 503 (by decide +kernel) (by decide +kernel)⟩
theorem f_4_17 : Fd_ RX4 17 4 1 2 RX4 TX4 5 := ⟨by decide, rfl, by decide, rfl, u_in4, gt_in 504 (by decide +kernel) (by decide +kernel)⟩
theorem f_4_21 : Fd_ RX4 21 4 2 2 RX4 TX4 5 := ⟨by decide, rfl, by decide, rfl, u_in4, gt_in 505 (by decide +kernel) (by decide +kernel)⟩
theorem f_11_272 : Fd_ RX11 272 4 2 2 RX4 TX4 5 := ⟨by decide, rfl, by decide, rfl, u_in4, gt_in 506 (by decide +kernel) (by decide +kernel)⟩
theorem f_4_24 : Fd_ RX4 24 4 3 0 RX4 TX4 5 := ⟨by decide, rfl, by decide, rfl, u_in4, gt_in 507 (by decide +kernel) (by decide +kernel)⟩
theorem f_11_269 : Fd_ RX11 269 4 3 0 RX4 TX4 5 := ⟨by decide, rfl, by decide, rfl, u_in4, gt_in 508 (by decide +kernel) (by decide +kernel)⟩
theorem f_4_28 : Fd_ RX4 28 4 4 0 RX4 TX4 5 := ⟨by decide, rfl, by decide, rfl, u_in4, gt_in 509 (by decide +kernel) (by decide +kernel)⟩
theorem f_6_9 : Fd_ RX6 9 6 0 2 RX6 TX6 2 := ⟨by decide, rfl, by decide, rfl, u_in6, gt_in 527 (by decide +kernel) (by decide +kernel)⟩
theorem f_11_295 : Fd_ RX11 295 6 0 2 RX6 TX6 2 := ⟨by decide, rfl, by decide, rfl, u_in6, gt_in 528 (by decide +kernel) (by decide +kernel)⟩
theorem f_6_15 : Fd_ RX6 15 6 1 0 RX6 TX6 2 := ⟨by decide, rfl, by decide, rfl, u_in6, gt_in 529 (by decide +kernel) (by decide +kernel)⟩
theorem f_11_294 : Fd_ RX11 294 6 1 0 RX6 TX6 2 := ⟨by decide, rfl, by decide, rfl, u_in6, gt_in 530 (by decide +kernel) (by decide +kernel)⟩
theorem f_2_9 : Fd_ RX2 9 2 0 2 RX2 TX2 3 := ⟨by decide, rfl, by decide, rfl, u_in2, gt_in 542 (by decide +kernel) (by decide +kernel)⟩
theorem f_2_15 : Fd_ RX2 15 2 1 0 RX2 TX2 3 := ⟨by decide, rfl, by decide, rfl, u_in2, gt_in 543 (by decide +kernel) (by decide +kernel)⟩
theorem f_11_282 : Fd_ RX11 282 2 1 0 RX2 TX2 3 := ⟨by decide, rfl, by decide, rfl, u_in2, gt_in 544 (by decide +kernel) (by decide +kernel)⟩
theorem f_2_19 : Fd_ RX2 19 2 2 0 RX2 TX2 3 := ⟨by decide, rfl, by decide, rfl, u_in2, gt_in 545 (by decide +kernel) (by decide +kernel)⟩
theorem f_11_285 : Fd_ RX11 285 2 2 0 RX2 TX2 3 := ⟨by decide, rfl, by decide, rfl, u_in2, gt_in 546 (by decide +kernel) (by decide +kernel)⟩
theorem f_3_10 : Fd_ RX3 10 3 0 2 RX3 TX3 4 := ⟨by decide, rfl, by decide, rfl, u_in3, gt_in 567 (by decide +kernel) (by decide +kernel)⟩
theorem f_11_386 : Fd_ RX11 386 3 0 2 RX3 TX3 4 := ⟨by decide, rfl, by decide, rfl, u_in3, gt_in 568 (by decide +kernel) (by decide +kernel)⟩
theorem f_3_21 : Fd_ RX3 21 3 1 2 RX3 TX3 4 := ⟨by decide, rfl, by decide, rfl, u_in3, gt_in 569 (by decide +kernel) (by decide +kernel)⟩
theorem f_11_387 : Fd_ RX11 387 3 1 2 RX3 TX3 4 := ⟨by decide, rfl, by decide, rfl, u_in3, gt_in 570 (by decide +kernel) (by decide +kernel)⟩
theorem f_3_28 : Fd_ RX3 28 3 2 2 RX3 TX3 4 := ⟨by decide, rfl, by decide, rfl, u_in3, gt_in 571 (by decide +kernel) (by decide +kernel)⟩
theorem f_11_388 : Fd_ RX11 388 3 2 2 RX3 TX3 4 := ⟨by decide, rfl, by decide, rfl, u_in3, gt_in 572 (by decide +kernel) (by decide +kernel)⟩
theorem f_3_32 : Fd_ RX3 32 3 3 0 RX3 TX3 4 := ⟨by decide, rfl, by decide, rfl, u_in3, gt_in 573 (by decide +kernel) (by decide +kernel)⟩
theorem f_11_383 : Fd_ RX11 383 3 3 0 RX3 TX3 4 := ⟨by decide, rfl, by decide, rfl, u_in3, gt_in 574 (by decide +kernel) (by decide +kernel)⟩
theorem f_11_10 : Fd_ RX11 10 11 0 2 RX11 TX11 15 := ⟨by decide, rfl, by decide, rfl, u_in11, gt_in 584 (by decide +kernel) (by decide +kernel)⟩
theorem f_11_19 : Fd_ RX11 19 11 1 2 RX11 TX11 15 := ⟨by decide, rfl, by decide, rfl, u_in11, gt_in 585 (by decide +kernel) (by decide +kernel)⟩
theorem f_11_28 : Fd_ RX11 28 11 2 2 RX11 TX11 15 := ⟨by decide, rfl, by decide, rfl, u_in11, gt_in 586 (by decide +kernel) (by decide +kernel)⟩
theorem f_11_32 : Fd_ RX11 32 11 3 2 RX11 TX11 15 := ⟨by decide, rfl, by decide, rfl, u_in11, gt_in 587 (by decide +kernel) (by decide +kernel)⟩
theorem f_11_38 : Fd_ RX11 38 11 4 2 RX11 TX11 15 := ⟨by decide, rfl, by decide, rfl, u_in11, gt_in 588 (by decide +kernel) (by decide +kernel)⟩
theorem f_11_45 : Fd_ RX11 45 11 5 2 RX11 TX11 15 := ⟨by decide, rfl, by decide, rfl, u_in11, gt_in 589 (by decide +kernel) (by decide +kernel)⟩
theorem f_11_52 : Fd_ RX11 52 11 6 2 RX11 TX11 15 := ⟨by decide, rfl, by decide, rfl, u_in11, gt_in 590 (by decide +kernel) (by decide +kernel)⟩
theorem f_11_59 : Fd_ RX11 59 11 7 2 RX11 TX11 15 := ⟨by decide, rfl, by decide, rfl, u_in11, gt_in 591 (by decide +kernel) (by decide +kernel)⟩
theorem f_11_63 : Fd_ RX11 63 11 8 2 RX11 TX11 15 := ⟨by decide, rfl, by decide, rfl, u_in11, gt_in 592 (by decide +kernel) (by decide +kernel)⟩
theorem f_11_69 : Fd_ RX11 69 11 9 2 RX11 TX11 15 := ⟨by decide, rfl, by decide, rfl, u_in11, gt_in 593 (by decide +kernel) (by decide +kernel)⟩
theorem f_11_76 : Fd_ RX11 76 11 10 2 RX11 TX11 15 := ⟨by decide, rfl, by decide, rfl, u_in11, gt_in 594 (by decide +kernel) (by decide +kernel)⟩
theorem f_11_83 : Fd_ RX11 83 11 11 2 RX11 TX11 15 := ⟨by decide, rfl, by decide, rfl, u_in11, gt_in 595 (by decide +kernel) (by decide +kernel)⟩
theorem f_11_89 : Fd_ RX11 89 11 12 2 RX11 TX11 15 := ⟨by decide, rfl, by decide, rfl, u_in11, gt_in 596 (by decide +kernel) (by decide +kernel)⟩
theorem f_11_93 : Fd_ RX11 93 11 13 2 RX11 TX11 15 := ⟨by decide, rfl, by decide, rfl, u_in11, gt_in 597 (by decide +kernel) (by decide +kernel)⟩
theorem f_11_97 : Fd_ RX11 97 11 14 0 RX11 TX11 15 := ⟨by decide, rfl, by decide, rfl, u_in11, gt_in 598 (by decide +kernel) (by decide +kernel)⟩
theorem f_12_82 : Fd_ RX12 82 12 0 0 RX12 TX12 51 := ⟨by decide, rfl, by decide, rfl, u_in12, gt_in 1346 (by decide +kernel) (by decide +kernel)⟩
theorem f_12_7 : Fd_ RX12 7 12 1 2 RX12 TX12 51 := ⟨by decide, rfl, by decide, rfl, u_in12, gt_in 1347 (by decide +kernel) (by decide +kernel)⟩
theorem f_12_85 : Fd_ RX12 85 12 2 0 RX12 TX12 51 := ⟨by decide, rfl, by decide, rfl, u_in12, gt_in 1348 (by decide +kernel) (by decide +kernel)⟩
theorem f_12_92 : Fd_ RX12 92 12 3 0 RX12 TX12 51 := ⟨by decide, rfl, by decide, rfl, u_in12, gt_in 1349 (by decide +kernel) (by decide +kernel)⟩
theorem f_12_101 : Fd_ RX12 101 12 4 0 RX12 TX12 51 := ⟨by decide, rfl, by decide, rfl, u_in12, gt_in 1350 (by decide +kernel) (by decide +kernel)⟩
theorem f_12_95 : Fd_ RX12 95 12 5 0 RX12 TX12 51 := ⟨by decide, rfl, by decide, rfl, u_in12, gt_in 1351 (by decide +kernel) (by decide +kernel)⟩
theorem f_12_98 : Fd_ RX12 98 12 6 0 RX12 TX12 51 := ⟨by decide, rfl, by decide, rfl, u_in12, gt_in 1352 (by decide +kernel) (by decide +kernel)⟩
theorem f_12_104 : Fd_ RX12 104 12 7 0 RX12 TX12 51 := ⟨by decide, rfl, by decide, rfl, u_in12, gt_in 1353 (by decide +kernel) (by decide +kernel)⟩
theorem f_12_121 : Fd_ RX12 121 12 8 0 RX12 TX12 51 := ⟨by decide, rfl, by decide, rfl, u_in12, gt_in 1354 (by decide +kernel) (by decide +kernel)⟩
theorem f_12_114 : Fd_ RX12 114 12 9 0 RX12 TX12 51 := ⟨by decide, rfl, by decide, rfl, u_in12, gt_in 1355 (by decide +kernel) (by decide +kernel)⟩
theorem f_12_140 : Fd_ RX12 140 12 10 0 RX12 TX12 51 := ⟨by decide, rfl, by decide, rfl, u_in12, gt_in 1356 (by decide +kernel) (by decide +kernel)⟩
theorem f_12_143 : Fd_ RX12 143 12 11 0 RX12 TX12 51 := ⟨by decide, rfl, by decide, rfl, u_in12, gt_in 1357 (by decide +kernel) (by decide +kernel)⟩
theorem f_12_117 : Fd_ RX12 117 12 12 1 RX12 TX12 51 := ⟨by decide, rfl, by decide, rfl, u_in12, gt_in 1358 (by decide +kernel) (by decide +kernel)⟩
theorem f_12_153 : Fd_ RX12 153 12 13 0 RX12 TX12 51 := ⟨by decide, rfl, by decide, rfl, u_in12, gt_in 1359 (by decide +kernel) (by decide +kernel)⟩
theorem f_12_13 : Fd_ RX12 13 12 14 2 RX12 TX12 51 := ⟨by decide, rfl, by decide, rfl, u_in12, gt_in 1360 (by decide +kernel) (by decide +kernel)⟩
theorem f_12_16 : Fd_ RX12 16 12 15 2 RX12 TX12 51 := ⟨by decide, rfl, by decide, rfl, u_in12, gt_in 1361 (by decide +kernel) (by decide +kernel)⟩
theorem f_12_19 : Fd_ RX12 19 12 16 2 RX12 TX12 51 := ⟨by decide, rfl, by decide, rfl, u_in12, gt_in 1362 (by decide +kernel) (by decide +kernel)⟩
theorem f_12_22 : Fd_ RX12 22 12 17 2 RX12 TX12 51 := ⟨by decide, rfl, by decide, rfl, u_in12, gt_in 1363 (by decide +kernel) (by decide +kernel)⟩
theorem f_12_25 : Fd_ RX12 25 12 18 2 RX12 TX12 51 := ⟨by decide, rfl, by decide, rfl, u_in12, gt_in 1364 (by decide +kernel) (by decide +kernel)⟩
theorem f_12_28 : Fd_ RX12 28 12 19 2 RX12 TX12 51 := ⟨by decide, rfl, by decide, rfl, u_in12, gt_in 1365 (by decide +kernel) (by decide +kernel)⟩
theorem f_12_32 : Fd_ RX12 32 12 20 2 RX12 TX12 51 := ⟨by decide, rfl, by decide, rfl, u_in12, gt_in 1366 (by decide +kernel) (by decide +kernel)⟩
theorem f_12_35 : Fd_ RX12 35 12 21 2 RX12 TX12 51 := ⟨by decide, rfl, by decide, rfl, u_in12, gt_in 1367 (by decide +kernel) (by decide +kernel)⟩
theorem f_12_38 : Fd_ RX12 38 12 22 2 RX12 TX12 51 := ⟨by decide, rfl, by decide, rfl, u_in12, gt_in 1368 (by decide +kernel) (by decide +kernel)⟩
theorem f_12_228 : Fd_ RX12 228 12 23 0 RX12 TX12 51 := ⟨by decide, rfl, by decide, rfl, u_in12, gt_in 1369 (by decide +kernel) (by decide +kernel)⟩
theorem f_12_197 : Fd_ RX12 197 12 24 0 RX12 TX12 51 := ⟨by decide, rfl, by decide, rfl, u_in12, gt_in 1370 (by decide +kernel) (by decide +kernel)⟩
theorem f_12_213 : Fd_ RX12 213 12 25 0 RX12 TX12 51 := ⟨by decide, rfl, by decide, rfl, u_in12, gt_in 1371 (by decide +kernel) (by decide +kernel)⟩
theorem f_12_42 : Fd_ RX12 42 12 26 2 RX12 TX12 51 := ⟨by decide, rfl, by decide, rfl, u_in12, gt_in 1372 (by decide +kernel) (by decide +kernel)⟩
theorem f_12_45 : Fd_ RX12 45 12 27 2 RX12 TX12 51 := ⟨by decide, rfl, by decide, rfl, u_in12, gt_in 1373 (by decide +kernel) (by decide +kernel)⟩
theorem f_12_48 : Fd_ RX12 48 12 28 2 RX12 TX12 51 := ⟨by decide, rfl, by decide, rfl, u_in12, gt_in 1374 (by decide +kernel) (by decide +kernel)⟩
theorem f_12_315 : Fd_ RX12 315 12 29 0 RX12 TX12 51 := ⟨by decide, rfl, by decide, rfl, u_in12, gt_in 1375 (by decide +kernel) (by decide +kernel)⟩
theorem f_12_298 : Fd_ RX12 298 12 30 0 RX12 TX12 51 := ⟨by decide, rfl, by decide, rfl, u_in12, gt_in 1376 (by decide +kernel) (by decide +kernel)⟩
theorem f_12_51 : Fd_ RX12 51 12 31 2 RX12 TX12 51 := ⟨by decide, rfl, by decide, rfl, u_in12, gt_in 1377 (by decide +kernel) (by decide +kernel)⟩
theorem f_12_54 : Fd_ RX12 54 12 32 0 RX12 TX12 51 := ⟨by decide, rfl, by decide, rfl, u_in12, gt_in 1378 (by decide +kernel) (by decide +kernel)⟩
theorem f_12_58 : Fd_ RX12 58 12 33 0 RX12 TX12 51 := ⟨by decide, rfl, by decide, rfl, u_in12, gt_in 1379 (by decide +kernel) (by decide +kernel)⟩
theorem f_12_61 : Fd_ RX12 61 12 34 2 RX12 TX12 51 := ⟨by decide, rfl, by decide, rfl, u_in12, gt_in 1380 (by decide +kernel) (by decide +kernel)⟩
theorem f_12_64 : Fd_ RX12 64 12 35 2 RX12 TX12 51 := ⟨by decide, rfl, by decide, rfl, u_in12, gt_in 1381 (by decide +kernel) (by decide +kernel)⟩
theorem f_12_67 : Fd_ RX12 67 12 36 2 RX12 TX12 51 := ⟨by decide, rfl, by decide, rfl, u_in12, gt_in 1382 (by decide +kernel) (by decide +kernel)⟩
theorem f_12_326 : Fd_ RX12 326 12 37 0 RX12 TX12 51 := ⟨by decide, rfl, by decide, rfl, u_in12, gt_in 1383 (by decide +kernel) (by decide +kernel)⟩
theorem f_12_320 : Fd_ RX12 320 12 38 0 RX12 TX12 51 := ⟨by decide, rfl, by decide, rfl, u_in12, gt_in 1384 (by decide +kernel) (by decide +kernel)⟩
theorem f_12_70 : Fd_ RX12 70 12 39 2 RX12 TX12 51 := ⟨by decide, rfl, by decide, rfl, u_in12, gt_in 1385 (by decide +kernel) (by decide +kernel)⟩
theorem f_12_335 : Fd_ RX12 335 12 40 0 RX12 TX12 51 := ⟨by decide, rfl, by decide, rfl, u_in12, gt_in 1386 (by decide +kernel) (by decide +kernel)⟩
theorem f_12_351 : Fd_ RX12 351 12 41 0 RX12 TX12 51 := ⟨by decide, rfl, by decide, rfl, u_in12, gt_in 1387 (by decide +kernel) (by decide +kernel)⟩
theorem f_12_73 : Fd_ RX12 73 12 42 2 RX12 TX12 51 := ⟨by decide, rfl, by decide, rfl, u_in12, gt_in 1388 (by decide +kernel) (by decide +kernel)⟩
theorem f_12_76 : Fd_ RX12 76 12 43 2 RX12 TX12 51 := ⟨by decide, rfl, by decide, rfl, u_in12, gt_in 1389 (by decide +kernel) (by decide +kernel)⟩
theorem f_12_361 : Fd_ RX12 361 12 44 0 RX12 TX12 51 := ⟨by decide, rfl, by decide, rfl, u_in12, gt_in 1390 (by decide +kernel) (by decide +kernel)⟩
theorem f_12_373 : Fd_ RX12 373 12 45 0 RX12 TX12 51 := ⟨by decide, rfl, by decide, rfl, u_in12, gt_in 1391 (by decide +kernel) (by decide +kernel)⟩
theorem f_12_79 : Fd_ RX12 79 12 46 2 RX12 TX12 51 := ⟨by decide, rfl, by decide, rfl, u_in12, gt_in 1392 (by decide +kernel) (by decide +kernel)⟩
theorem f_12_380 : Fd_ RX12 380 12 47 0 RX12 TX12 51 := ⟨by decide, rfl, by decide, rfl, u_in12, gt_in 1393 (by decide +kernel) (by decide +kernel)⟩
theorem f_12_395 : Fd_ RX12 395 12 48 0 RX12 TX12 51 := ⟨by decide, rfl, by decide, rfl, u_in12, gt_in 1394 (by decide +kernel) (by decide +kernel)⟩
theorem f_12_398 : Fd_ RX12 398 12 49 0 RX12 TX12 51 := ⟨by decide, rfl, by decide, rfl, u_in12, gt_in 1395 (by decide +kernel) (by decide +kernel)⟩
theorem f_12_386 : Fd_ RX12 386 12 50 0 RX12 TX12 51 := ⟨by decide, rfl, by decide, rfl, u_in12, gt_in 1396 (by decide +kernel) (by decide +kernel)⟩
theorem s_10_66 : Sw_ RX10 66 yX10_withLetter cX10_withLetter 3 (some .long) 2 := ⟨gt_in 192 (by decide +kernel) (by decide +kernel), gt_in 193 (by decide +kernel) (by decide +kernel), gt_in 106 (by decide +kernel) (by decide +kernel), gt_in 194 (by decide +kernel) (by decide +kernel), by decide +kernel⟩
theorem v_L_19 : Vw_ RL 19 RX11 yX11_feed cX11_feed 6 (some .int) 5 := ⟨gt_in 630 (by decide +kernel) (by decide +kernel), gt_in 631 (by decide +kernel) (by decide +kernel), gt_in 632 (by decide +kernel) (by decide +kernel), gt_in 105 (by decide +kernel) (by decide +kernel), gt_in 633 (by decide +kernel) (by decide +kernel), by decide +kernel⟩
theorem v_11_105 : Vw_ RX11 105 RX10 yX10_add cX10_add 3 none 1 := ⟨gt_in 634 (by decide +kernel) (by decide +kernel), gt_in 635 (by decide +kernel) (by decide +kernel), gt_in 636 (by decide +kernel) (by decide +kernel), gt_in 106 (by decide +kernel) (by decide +kernel), gt_in 637 (by decide +kernel) (by decide +kernel), by decide +kernel⟩
theorem v_L_24 : Vw_ RL 24 RX11 yX11_end cX11_end 2 (some .boolean) 1 := ⟨gt_in 638 (by decide +kernel) (by decide +kernel), gt_in 639 (by decide +kernel) (by decide +kernel), gt_in 640 (by decide +kernel) (by decide +kernel), gt_in 105 (by decide +kernel) (by decide +kernel), gt_in 641 (by decide +kernel) (by decide +kernel), by decide +kernel⟩
theorem v_L_29 : Vw_ RL 29 RX11 yX11_table cX11_table 2 (some .int) 0 := ⟨gt_in 642 (by decide +kernel) (by decide +kernel), gt_in 643 (by decide +kernel) (by decide +kernel), gt_in 644 (by decide +kernel) (by decide +kernel), gt_in 105 (by decide +kernel) (by decide +kernel), gt_in 645 (by decide +kernel) (by decide +kernel), by decide +kernel⟩
theorem v_11_109 : Vw_ RX11 109 RX9 yX9_readFrom cX9_readFrom 3 (some .int) 1 := ⟨gt_in 646 (by decide +kernel) (by decide +kernel), gt_in 647 (by decide +kernel) (by decide +kernel), gt_in 648 (by decide +kernel) (by decide +kernel), gt_in 114 (by decide +kernel) (by decide +kernel), gt_in 649 (by decide +kernel) (by decide +kernel), by decide +kernel⟩
theorem v_9_34 : Vw_ RX9 34 RX8 yX8_forget cX8_forget 1 none 0 := ⟨gt_in 650 (by decide +kernel) (by decide +kernel), gt_in 651 (by decide +kernel) (by decide +kernel), gt_in 652 (by decide +kernel) (by decide +kernel), gt_in 111 (by decide +kernel) (by decide +kernel), gt_in 653 (by decide +kernel) (by decide +kernel), by decide +kernel⟩
theorem v_9_37 : Vw_ RX9 37 RX1 yX1_forget cX1_forget 2 none 0 := ⟨gt_in 654 (by decide +kernel) (by decide +kernel), gt_in 655 (by decide +kernel) (by decide +kernel), gt_in 656 (by decide +kernel) (by decide +kernel), gt_in 112 (by decide +kernel) (by decide +kernel), gt_in 657 (by decide +kernel) (by decide +kernel), by decide +kernel⟩
theorem v_9_38 : Vw_ RX9 38 RX10 yX10_begin cX10_begin 5 none 1 := ⟨gt_in 658 (by decide +kernel) (by decide +kernel), gt_in 659 (by decide +kernel) (by decide +kernel), gt_in 660 (by decide +kernel) (by decide +kernel), gt_in 106 (by decide +kernel) (by decide +kernel), gt_in 661 (by decide +kernel) (by decide +kernel), by decide +kernel⟩
theorem s_10_70 : Sw_ RX10 70 yJ9_min_7cf53 cJ9_min_7cf53 2 (some .int) 2 := ⟨gt_in 662 (by decide +kernel) (by decide +kernel), gt_in 663 (by decide +kernel) (by decide +kernel), gt_in 122 (by decide +kernel) (by decide +kernel), gt_in 664 (by decide +kernel) (by decide +kernel), by decide +kernel⟩
theorem v_10_76 : Vw_ RX10 76 RX10 yX10_readToken cX10_readToken 8 (some .int) 1 := ⟨gt_in 665 (by decide +kernel) (by decide +kernel), gt_in 667 (by decide +kernel) (by decide +kernel), gt_in 0 (by decide +kernel) (by decide +kernel), gt_in 106 (by decide +kernel) (by decide +kernel), gt_in 668 (by decide +kernel) (by decide +kernel), by decide +kernel⟩
theorem s_10_87 : Sw_ RX10 87 yX10_isLetter cX10_isLetter 1 (some .boolean) 1 := ⟨gt_in 669 (by decide +kernel) (by decide +kernel), gt_in 670 (by decide +kernel) (by decide +kernel), gt_in 106 (by decide +kernel) (by decide +kernel), gt_in 671 (by decide +kernel) (by decide +kernel), by decide +kernel⟩
theorem s_10_91 : Sw_ RX10 91 yX10_isDigit cX10_isDigit 1 (some .boolean) 1 := ⟨gt_in 672 (by decide +kernel) (by decide +kernel), gt_in 673 (by decide +kernel) (by decide +kernel), gt_in 106 (by decide +kernel) (by decide +kernel), gt_in 674 (by decide +kernel) (by decide +kernel), by decide +kernel⟩
theorem s_10_94 : Sw_ RX10 94 yX10_isSign cX10_isSign 1 (some .boolean) 1 := ⟨gt_in 675 (by decide +kernel) (by decide +kernel), gt_in 676 (by decide +kernel) (by decide +kernel), gt_in 106 (by decide +kernel) (by decide +kernel), gt_in 677 (by decide +kernel) (by decide +kernel), by decide +kernel⟩
theorem v_10_80 : Vw_ RX10 80 RX10 yX10_addToken cX10_addToken 5 none 3 := ⟨gt_in 678 (by decide +kernel) (by decide +kernel), gt_in 680 (by decide +kernel) (by decide +kernel), gt_in 1 (by decide +kernel) (by decide +kernel), gt_in 106 (by decide +kernel) (by decide +kernel), gt_in 681 (by decide +kernel) (by decide +kernel), by decide +kernel⟩
theorem v_10_97 : Vw_ RX10 97 RX10 yX10_tokenOfWord cX10_tokenOfWord 4 (some .int) 1 := ⟨gt_in 682 (by decide +kernel) (by decide +kernel), gt_in 684 (by decide +kernel) (by decide +kernel), gt_in 2 (by decide +kernel) (by decide +kernel), gt_in 106 (by decide +kernel) (by decide +kernel), gt_in 685 (by decide +kernel) (by decide +kernel), by decide +kernel⟩
theorem v_10_84 : Vw_ RX10 84 RX10 yX10_advance cX10_advance 1 none 0 := ⟨gt_in 686 (by decide +kernel) (by decide +kernel), gt_in 687 (by decide +kernel) (by decide +kernel), gt_in 688 (by decide +kernel) (by decide +kernel), gt_in 106 (by decide +kernel) (by decide +kernel), gt_in 689 (by decide +kernel) (by decide +kernel), by decide +kernel⟩
theorem v_9_48 : Vw_ RX9 48 RX9 yX9_readLine cX9_readLine 2 (some .boolean) 1 := ⟨gt_in 690 (by decide +kernel) (by decide +kernel), gt_in 692 (by decide +kernel) (by decide +kernel), gt_in 3 (by decide +kernel) (by decide +kernel), gt_in 114 (by decide +kernel) (by decide +kernel), gt_in 693 (by decide +kernel) (by decide +kernel), by decide +kernel⟩
theorem v_9_52 : Vw_ RX9 52 RX9 yX9_readPerson cX9_readPerson 6 (some .boolean) 1 := ⟨gt_in 694 (by decide +kernel) (by decide +kernel), gt_in 696 (by decide +kernel) (by decide +kernel), gt_in 4 (by decide +kernel) (by decide +kernel), gt_in 114 (by decide +kernel) (by decide +kernel), gt_in 697 (by decide +kernel) (by decide +kernel), by decide +kernel⟩
theorem v_9_67 : Vw_ RX9 67 RX10 yX10_fail cX10_fail 2 (some .boolean) 1 := ⟨gt_in 698 (by decide +kernel) (by decide +kernel), gt_in 699 (by decide +kernel) (by decide +kernel), gt_in 700 (by decide +kernel) (by decide +kernel), gt_in 106 (by decide +kernel) (by decide +kernel), gt_in 701 (by decide +kernel) (by decide +kernel), by decide +kernel⟩
theorem v_9_82 : Vw_ RX9 82 RX10 yX10_advance cX10_advance 1 none 0 := ⟨gt_in 702 (by decide +kernel) (by decide +kernel), gt_in 687 (by decide +kernel) (by decide +kernel), gt_in 688 (by decide +kernel) (by decide +kernel), gt_in 106 (by decide +kernel) (by decide +kernel), gt_in 689 (by decide +kernel) (by decide +kernel), by decide +kernel⟩
theorem v_9_88 : Vw_ RX9 88 RX9 yX9_newName cX9_newName 2 (some .boolean) 1 := ⟨gt_in 703 (by decide +kernel) (by decide +kernel), gt_in 705 (by decide +kernel) (by decide +kernel), gt_in 5 (by decide +kernel) (by decide +kernel), gt_in 114 (by decide +kernel) (by decide +kernel), gt_in 706 (by decide +kernel) (by decide +kernel), by decide +kernel⟩
theorem v_9_75 : Vw_ RX9 75 RX8 yX8_personNamed cX8_personNamed 4 (some .int) 1 := ⟨gt_in 707 (by decide +kernel) (by decide +kernel), gt_in 708 (by decide +kernel) (by decide +kernel), gt_in 709 (by decide +kernel) (by decide +kernel), gt_in 111 (by decide +kernel) (by decide +kernel), gt_in 710 (by decide +kernel) (by decide +kernel), by decide +kernel⟩
theorem v_9_79 : Vw_ RX9 79 RX8 yX8_dishNamed cX8_dishNamed 4 (some .int) 1 := ⟨gt_in 711 (by decide +kernel) (by decide +kernel), gt_in 712 (by decide +kernel) (by decide +kernel), gt_in 713 (by decide +kernel) (by decide +kernel), gt_in 111 (by decide +kernel) (by decide +kernel), gt_in 714 (by decide +kernel) (by decide +kernel), by decide +kernel⟩
theorem v_9_91 : Vw_ RX9 91 RX10 yX10_takeNumber cX10_takeNumber 4 (some .int) 2 := ⟨gt_in 715 (by decide +kernel) (by decide +kernel), gt_in 716 (by decide +kernel) (by decide +kernel), gt_in 717 (by decide +kernel) (by decide +kernel), gt_in 106 (by decide +kernel) (by decide +kernel), gt_in 718 (by decide +kernel) (by decide +kernel), by decide +kernel⟩
theorem v_10_101 : Vw_ RX10 101 RX10 yX10_fail cX10_fail 2 (some .boolean) 1 := ⟨gt_in 719 (by decide +kernel) (by decide +kernel), gt_in 699 (by decide +kernel) (by decide +kernel), gt_in 700 (by decide +kernel) (by decide +kernel), gt_in 106 (by decide +kernel) (by decide +kernel), gt_in 701 (by decide +kernel) (by decide +kernel), by decide +kernel⟩
theorem v_9_95 : Vw_ RX9 95 RX10 yX10_takeName cX10_takeName 2 (some .int) 1 := ⟨gt_in 720 (by decide +kernel) (by decide +kernel), gt_in 721 (by decide +kernel) (by decide +kernel), gt_in 722 (by decide +kernel) (by decide +kernel), gt_in 106 (by decide +kernel) (by decide +kernel), gt_in 723 (by decide +kernel) (by decide +kernel), by decide +kernel⟩
theorem v_9_110 : Vw_ RX9 110 RX10 yX10_take cX10_take 2 (some .boolean) 1 := ⟨gt_in 724 (by decide +kernel) (by decide +kernel), gt_in 725 (by decide +kernel) (by decide +kernel), gt_in 726 (by decide +kernel) (by decide +kernel), gt_in 106 (by decide +kernel) (by decide +kernel), gt_in 727 (by decide +kernel) (by decide +kernel), by decide +kernel⟩
theorem v_9_55 : Vw_ RX9 55 RX9 yX9_readDish cX9_readDish 6 (some .boolean) 1 := ⟨gt_in 728 (by decide +kernel) (by decide +kernel), gt_in 730 (by decide +kernel) (by decide +kernel), gt_in 6 (by decide +kernel) (by decide +kernel), gt_in 114 (by decide +kernel) (by decide +kernel), gt_in 731 (by decide +kernel) (by decide +kernel), by decide +kernel⟩
theorem v_9_58 : Vw_ RX9 58 RX9 yX9_readPlate cX9_readPlate 5 (some .boolean) 1 := ⟨gt_in 732 (by decide +kernel) (by decide +kernel), gt_in 734 (by decide +kernel) (by decide +kernel), gt_in 7 (by decide +kernel) (by decide +kernel), gt_in 114 (by decide +kernel) (by decide +kernel), gt_in 735 (by decide +kernel) (by decide +kernel), by decide +kernel⟩
theorem v_9_125 : Vw_ RX9 125 RX1 yX1_onPlate cX1_onPlate 3 (some .int) 2 := ⟨gt_in 736 (by decide +kernel) (by decide +kernel), gt_in 737 (by decide +kernel) (by decide +kernel), gt_in 738 (by decide +kernel) (by decide +kernel), gt_in 112 (by decide +kernel) (by decide +kernel), gt_in 739 (by decide +kernel) (by decide +kernel), by decide +kernel⟩
theorem v_9_128 : Vw_ RX9 128 RX1 yX1_addToPlate cX1_addToPlate 4 none 3 := ⟨gt_in 740 (by decide +kernel) (by decide +kernel), gt_in 741 (by decide +kernel) (by decide +kernel), gt_in 742 (by decide +kernel) (by decide +kernel), gt_in 112 (by decide +kernel) (by decide +kernel), gt_in 743 (by decide +kernel) (by decide +kernel), by decide +kernel⟩
theorem v_9_61 : Vw_ RX9 61 RX9 yX9_readLaw cX9_readLaw 2 (some .boolean) 1 := ⟨gt_in 744 (by decide +kernel) (by decide +kernel), gt_in 746 (by decide +kernel) (by decide +kernel), gt_in 8 (by decide +kernel) (by decide +kernel), gt_in 114 (by decide +kernel) (by decide +kernel), gt_in 747 (by decide +kernel) (by decide +kernel), by decide +kernel⟩
theorem v_9_64 : Vw_ RX9 64 RX9 yX9_readDogs cX9_readDogs 2 (some .boolean) 1 := ⟨gt_in 748 (by decide +kernel) (by decide +kernel), gt_in 750 (by decide +kernel) (by decide +kernel), gt_in 9 (by decide +kernel) (by decide +kernel), gt_in 114 (by decide +kernel) (by decide +kernel), gt_in 751 (by decide +kernel) (by decide +kernel), by decide +kernel⟩
theorem v_11_120 : Vw_ RX11 120 RX8 yX8_become cX8_become 2 none 1 := ⟨gt_in 752 (by decide +kernel) (by decide +kernel), gt_in 753 (by decide +kernel) (by decide +kernel), gt_in 754 (by decide +kernel) (by decide +kernel), gt_in 111 (by decide +kernel) (by decide +kernel), gt_in 755 (by decide +kernel) (by decide +kernel), by decide +kernel⟩
theorem v_11_126 : Vw_ RX11 126 RX1 yX1_become cX1_become 2 none 1 := ⟨gt_in 759 (by decide +kernel) (by decide +kernel), gt_in 760 (by decide +kernel) (by decide +kernel), gt_in 761 (by decide +kernel) (by decide +kernel), gt_in 112 (by decide +kernel) (by decide +kernel), gt_in 762 (by decide +kernel) (by decide +kernel), by decide +kernel⟩
theorem v_11_129 : Vw_ RX11 129 RX7 yX7_forget cX7_forget 1 none 0 := ⟨gt_in 764 (by decide +kernel) (by decide +kernel), gt_in 765 (by decide +kernel) (by decide +kernel), gt_in 766 (by decide +kernel) (by decide +kernel), gt_in 116 (by decide +kernel) (by decide +kernel), gt_in 767 (by decide +kernel) (by decide +kernel), by decide +kernel⟩
theorem v_11_132 : Vw_ RX11 132 RX5 yX5_forget cX5_forget 1 none 0 := ⟨gt_in 768 (by decide +kernel) (by decide +kernel), gt_in 769 (by decide +kernel) (by decide +kernel), gt_in 770 (by decide +kernel) (by decide +kernel), gt_in 113 (by decide +kernel) (by decide +kernel), gt_in 771 (by decide +kernel) (by decide +kernel), by decide +kernel⟩
theorem v_L_34 : Vw_ RL 34 RX11 yX11_fault cX11_fault 1 (some .int) 0 := ⟨gt_in 772 (by decide +kernel) (by decide +kernel), gt_in 773 (by decide +kernel) (by decide +kernel), gt_in 774 (by decide +kernel) (by decide +kernel), gt_in 105 (by decide +kernel) (by decide +kernel), gt_in 775 (by decide +kernel) (by decide +kernel), by decide +kernel⟩
theorem v_L_47 : Vw_ RL 47 RX11 yX11_plate cX11_plate 3 (some .int) 2 := ⟨gt_in 776 (by decide +kernel) (by decide +kernel), gt_in 777 (by decide +kernel) (by decide +kernel), gt_in 778 (by decide +kernel) (by decide +kernel), gt_in 105 (by decide +kernel) (by decide +kernel), gt_in 779 (by decide +kernel) (by decide +kernel), by decide +kernel⟩
theorem v_11_133 : Vw_ RX11 133 RX8 yX8_hasPerson cX8_hasPerson 2 (some .boolean) 1 := ⟨gt_in 780 (by decide +kernel) (by decide +kernel), gt_in 781 (by decide +kernel) (by decide +kernel), gt_in 782 (by decide +kernel) (by decide +kernel), gt_in 111 (by decide +kernel) (by decide +kernel), gt_in 783 (by decide +kernel) (by decide +kernel), by decide +kernel⟩
theorem v_11_175 : Vw_ RX11 175 RX8 yX8_hasDish cX8_hasDish 2 (some .boolean) 1 := ⟨gt_in 784 (by decide +kernel) (by decide +kernel), gt_in 785 (by decide +kernel) (by decide +kernel), gt_in 786 (by decide +kernel) (by decide +kernel), gt_in 111 (by decide +kernel) (by decide +kernel), gt_in 787 (by decide +kernel) (by decide +kernel), by decide +kernel⟩
theorem v_11_178 : Vw_ RX11 178 RX1 yX1_onPlate cX1_onPlate 3 (some .int) 2 := ⟨gt_in 788 (by decide +kernel) (by decide +kernel), gt_in 737 (by decide +kernel) (by decide +kernel), gt_in 738 (by decide +kernel) (by decide +kernel), gt_in 112 (by decide +kernel) (by decide +kernel), gt_in 739 (by decide +kernel) (by decide +kernel), by decide +kernel⟩
theorem v_L_51 : Vw_ RL 51 RX11 yX11_dish cX11_dish 3 (some .int) 2 := ⟨gt_in 789 (by decide +kernel) (by decide +kernel), gt_in 790 (by decide +kernel) (by decide +kernel), gt_in 791 (by decide +kernel) (by decide +kernel), gt_in 105 (by decide +kernel) (by decide +kernel), gt_in 792 (by decide +kernel) (by decide +kernel), by decide +kernel⟩
theorem v_11_188 : Vw_ RX11 188 RX8 yX8_everybody cX8_everybody 1 (some .int) 0 := ⟨gt_in 793 (by decide +kernel) (by decide +kernel), gt_in 794 (by decide +kernel) (by decide +kernel), gt_in 795 (by decide +kernel) (by decide +kernel), gt_in 111 (by decide +kernel) (by decide +kernel), gt_in 796 (by decide +kernel) (by decide +kernel), by decide +kernel⟩
theorem v_11_192 : Vw_ RX11 192 RX1 yX1_onPlatesOf cX1_onPlatesOf 5 (some .int) 2 := ⟨gt_in 797 (by decide +kernel) (by decide +kernel), gt_in 798 (by decide +kernel) (by decide +kernel), gt_in 799 (by decide +kernel) (by decide +kernel), gt_in 112 (by decide +kernel) (by decide +kernel), gt_in 800 (by decide +kernel) (by decide +kernel), by decide +kernel⟩
theorem v_1_71 : Vw_ RX1 71 RX1 yX1_onPlate cX1_onPlate 3 (some .int) 2 := ⟨gt_in 801 (by decide +kernel) (by decide +kernel), gt_in 737 (by decide +kernel) (by decide +kernel), gt_in 738 (by decide +kernel) (by decide +kernel), gt_in 112 (by decide +kernel) (by decide +kernel), gt_in 739 (by decide +kernel) (by decide +kernel), by decide +kernel⟩
theorem v_L_55 : Vw_ RL 55 RX11 yX11_now cX11_now 2 (some .int) 1 := ⟨gt_in 802 (by decide +kernel) (by decide +kernel), gt_in 803 (by decide +kernel) (by decide +kernel), gt_in 804 (by decide +kernel) (by decide +kernel), gt_in 105 (by decide +kernel) (by decide +kernel), gt_in 805 (by decide +kernel) (by decide +kernel), by decide +kernel⟩
theorem v_11_204 : Vw_ RX11 204 RX1 yX1_allEaten cX1_allEaten 3 (some .int) 0 := ⟨gt_in 806 (by decide +kernel) (by decide +kernel), gt_in 807 (by decide +kernel) (by decide +kernel), gt_in 808 (by decide +kernel) (by decide +kernel), gt_in 112 (by decide +kernel) (by decide +kernel), gt_in 809 (by decide +kernel) (by decide +kernel), by decide +kernel⟩
theorem v_11_207 : Vw_ RX11 207 RX1 yX1_allHunger cX1_allHunger 3 (some .int) 0 := ⟨gt_in 810 (by decide +kernel) (by decide +kernel), gt_in 811 (by decide +kernel) (by decide +kernel), gt_in 812 (by decide +kernel) (by decide +kernel), gt_in 112 (by decide +kernel) (by decide +kernel), gt_in 813 (by decide +kernel) (by decide +kernel), by decide +kernel⟩
theorem v_L_189 : Vw_ RL 189 RX11 yX11_count cX11_count 2 (some .int) 1 := ⟨gt_in 814 (by decide +kernel) (by decide +kernel), gt_in 815 (by decide +kernel) (by decide +kernel), gt_in 816 (by decide +kernel) (by decide +kernel), gt_in 105 (by decide +kernel) (by decide +kernel), gt_in 817 (by decide +kernel) (by decide +kernel), by decide +kernel⟩
theorem v_L_60 : Vw_ RL 60 RX11 yX11_eat cX11_eat 4 (some .int) 3 := ⟨gt_in 818 (by decide +kernel) (by decide +kernel), gt_in 819 (by decide +kernel) (by decide +kernel), gt_in 820 (by decide +kernel) (by decide +kernel), gt_in 105 (by decide +kernel) (by decide +kernel), gt_in 821 (by decide +kernel) (by decide +kernel), by decide +kernel⟩
theorem v_11_225 : Vw_ RX11 225 RX5 yX5_note cX5_note 2 none 1 := ⟨gt_in 822 (by decide +kernel) (by decide +kernel), gt_in 823 (by decide +kernel) (by decide +kernel), gt_in 824 (by decide +kernel) (by decide +kernel), gt_in 113 (by decide +kernel) (by decide +kernel), gt_in 825 (by decide +kernel) (by decide +kernel), by decide +kernel⟩
theorem v_5_27 : Vw_ RX5 27 RX1 yX1_become cX1_become 2 none 1 := ⟨gt_in 826 (by decide +kernel) (by decide +kernel), gt_in 760 (by decide +kernel) (by decide +kernel), gt_in 761 (by decide +kernel) (by decide +kernel), gt_in 112 (by decide +kernel) (by decide +kernel), gt_in 762 (by decide +kernel) (by decide +kernel), by decide +kernel⟩
theorem v_11_228 : Vw_ RX11 228 RX1 yX1_tryToEat cX1_tryToEat 4 (some .int) 3 := ⟨gt_in 827 (by decide +kernel) (by decide +kernel), gt_in 828 (by decide +kernel) (by decide +kernel), gt_in 829 (by decide +kernel) (by decide +kernel), gt_in 112 (by decide +kernel) (by decide +kernel), gt_in 830 (by decide +kernel) (by decide +kernel), by decide +kernel⟩
theorem v_1_115 : Vw_ RX1 115 RX1 yX1_lives cX1_lives 2 (some .boolean) 1 := ⟨gt_in 831 (by decide +kernel) (by decide +kernel), gt_in 832 (by decide +kernel) (by decide +kernel), gt_in 833 (by decide +kernel) (by decide +kernel), gt_in 112 (by decide +kernel) (by decide +kernel), gt_in 834 (by decide +kernel) (by decide +kernel), by decide +kernel⟩
theorem v_1_109 : Vw_ RX1 109 RX1 yX1_wantsYet cX1_wantsYet 2 (some .int) 1 := ⟨gt_in 835 (by decide +kernel) (by decide +kernel), gt_in 836 (by decide +kernel) (by decide +kernel), gt_in 837 (by decide +kernel) (by decide +kernel), gt_in 112 (by decide +kernel) (by decide +kernel), gt_in 838 (by decide +kernel) (by decide +kernel), by decide +kernel⟩
theorem v_1_112 : Vw_ RX1 112 RX1 yX1_eatUp cX1_eatUp 4 none 3 := ⟨gt_in 839 (by decide +kernel) (by decide +kernel), gt_in 841 (by decide +kernel) (by decide +kernel), gt_in 10 (by decide +kernel) (by decide +kernel), gt_in 112 (by decide +kernel) (by decide +kernel), gt_in 842 (by decide +kernel) (by decide +kernel), by decide +kernel⟩
theorem v_1_105 : Vw_ RX1 105 RX1 yX1_addToPlate cX1_addToPlate 4 none 3 := ⟨gt_in 843 (by decide +kernel) (by decide +kernel), gt_in 741 (by decide +kernel) (by decide +kernel), gt_in 742 (by decide +kernel) (by decide +kernel), gt_in 112 (by decide +kernel) (by decide +kernel), gt_in 743 (by decide +kernel) (by decide +kernel), by decide +kernel⟩
theorem v_11_232 : Vw_ RX11 232 RX11 yX11_keptIfDone cX11_keptIfDone 2 (some .int) 1 := ⟨gt_in 844 (by decide +kernel) (by decide +kernel), gt_in 846 (by decide +kernel) (by decide +kernel), gt_in 11 (by decide +kernel) (by decide +kernel), gt_in 105 (by decide +kernel) (by decide +kernel), gt_in 847 (by decide +kernel) (by decide +kernel), by decide +kernel⟩
theorem v_11_260 : Vw_ RX11 260 RX5 yX5_keepNoted cX5_keepNoted 1 none 0 := ⟨gt_in 848 (by decide +kernel) (by decide +kernel), gt_in 849 (by decide +kernel) (by decide +kernel), gt_in 850 (by decide +kernel) (by decide +kernel), gt_in 113 (by decide +kernel) (by decide +kernel), gt_in 851 (by decide +kernel) (by decide +kernel), by decide +kernel⟩
theorem s_5_31 : Sw_ RX5 31 yJ9_min_7cf53 cJ9_min_7cf53 2 (some .int) 2 := ⟨gt_in 852 (by decide +kernel) (by decide +kernel), gt_in 663 (by decide +kernel) (by decide +kernel), gt_in 122 (by decide +kernel) (by decide +kernel), gt_in 664 (by decide +kernel) (by decide +kernel), by decide +kernel⟩
theorem v_L_65 : Vw_ RL 65 RX11 yX11_serve cX11_serve 4 (some .int) 3 := ⟨gt_in 853 (by decide +kernel) (by decide +kernel), gt_in 854 (by decide +kernel) (by decide +kernel), gt_in 855 (by decide +kernel) (by decide +kernel), gt_in 105 (by decide +kernel) (by decide +kernel), gt_in 856 (by decide +kernel) (by decide +kernel), by decide +kernel⟩
theorem v_11_235 : Vw_ RX11 235 RX1 yX1_tryToServe cX1_tryToServe 4 (some .int) 3 := ⟨gt_in 857 (by decide +kernel) (by decide +kernel), gt_in 858 (by decide +kernel) (by decide +kernel), gt_in 859 (by decide +kernel) (by decide +kernel), gt_in 112 (by decide +kernel) (by decide +kernel), gt_in 860 (by decide +kernel) (by decide +kernel), by decide +kernel⟩
theorem v_L_69 : Vw_ RL 69 RX11 yX11_rise cX11_rise 2 (some .int) 1 := ⟨gt_in 861 (by decide +kernel) (by decide +kernel), gt_in 862 (by decide +kernel) (by decide +kernel), gt_in 863 (by decide +kernel) (by decide +kernel), gt_in 105 (by decide +kernel) (by decide +kernel), gt_in 864 (by decide +kernel) (by decide +kernel), by decide +kernel⟩
theorem v_11_238 : Vw_ RX11 238 RX1 yX1_tryToRise cX1_tryToRise 2 (some .int) 1 := ⟨gt_in 865 (by decide +kernel) (by decide +kernel), gt_in 866 (by decide +kernel) (by decide +kernel), gt_in 867 (by decide +kernel) (by decide +kernel), gt_in 112 (by decide +kernel) (by decide +kernel), gt_in 868 (by decide +kernel) (by decide +kernel), by decide +kernel⟩
theorem v_1_119 : Vw_ RX1 119 RX1 yX1_passOn cX1_passOn 7 none 1 := ⟨gt_in 869 (by decide +kernel) (by decide +kernel), gt_in 870 (by decide +kernel) (by decide +kernel), gt_in 871 (by decide +kernel) (by decide +kernel), gt_in 112 (by decide +kernel) (by decide +kernel), gt_in 872 (by decide +kernel) (by decide +kernel), by decide +kernel⟩
theorem v_1_91 : Vw_ RX1 91 RX1 yX1_heirOf cX1_heirOf 5 (some .int) 2 := ⟨gt_in 873 (by decide +kernel) (by decide +kernel), gt_in 874 (by decide +kernel) (by decide +kernel), gt_in 875 (by decide +kernel) (by decide +kernel), gt_in 112 (by decide +kernel) (by decide +kernel), gt_in 876 (by decide +kernel) (by decide +kernel), by decide +kernel⟩
theorem v_1_62 : Vw_ RX1 62 RX8 yX8_everybody cX8_everybody 1 (some .int) 0 := ⟨gt_in 877 (by decide +kernel) (by decide +kernel), gt_in 794 (by decide +kernel) (by decide +kernel), gt_in 795 (by decide +kernel) (by decide +kernel), gt_in 111 (by decide +kernel) (by decide +kernel), gt_in 796 (by decide +kernel) (by decide +kernel), by decide +kernel⟩
theorem v_1_81 : Vw_ RX1 81 RX1 yX1_leastFed cX1_leastFed 4 (some .int) 1 := ⟨gt_in 878 (by decide +kernel) (by decide +kernel), gt_in 880 (by decide +kernel) (by decide +kernel), gt_in 12 (by decide +kernel) (by decide +kernel), gt_in 112 (by decide +kernel) (by decide +kernel), gt_in 881 (by decide +kernel) (by decide +kernel), by decide +kernel⟩
theorem v_1_85 : Vw_ RX1 85 RX8 yX8_childrenOf cX8_childrenOf 4 (some .int) 1 := ⟨gt_in 882 (by decide +kernel) (by decide +kernel), gt_in 883 (by decide +kernel) (by decide +kernel), gt_in 884 (by decide +kernel) (by decide +kernel), gt_in 111 (by decide +kernel) (by decide +kernel), gt_in 885 (by decide +kernel) (by decide +kernel), by decide +kernel⟩
theorem v_1_88 : Vw_ RX1 88 RX1 yX1_firstBehind cX1_firstBehind 5 (some .int) 2 := ⟨gt_in 886 (by decide +kernel) (by decide +kernel), gt_in 888 (by decide +kernel) (by decide +kernel), gt_in 13 (by decide +kernel) (by decide +kernel), gt_in 112 (by decide +kernel) (by decide +kernel), gt_in 889 (by decide +kernel) (by decide +kernel), by decide +kernel⟩
theorem s_1_100 : Sw_ RX1 100 yJ9_min_7cf53 cJ9_min_7cf53 2 (some .int) 2 := ⟨gt_in 890 (by decide +kernel) (by decide +kernel), gt_in 663 (by decide +kernel) (by decide +kernel), gt_in 122 (by decide +kernel) (by decide +kernel), gt_in 664 (by decide +kernel) (by decide +kernel), by decide +kernel⟩
theorem v_L_73 : Vw_ RL 73 RX11 yX11_refuse cX11_refuse 2 (some .int) 1 := ⟨gt_in 891 (by decide +kernel) (by decide +kernel), gt_in 892 (by decide +kernel) (by decide +kernel), gt_in 893 (by decide +kernel) (by decide +kernel), gt_in 105 (by decide +kernel) (by decide +kernel), gt_in 894 (by decide +kernel) (by decide +kernel), by decide +kernel⟩
theorem v_11_241 : Vw_ RX11 241 RX1 yX1_tryToRefuse cX1_tryToRefuse 2 (some .int) 1 := ⟨gt_in 895 (by decide +kernel) (by decide +kernel), gt_in 896 (by decide +kernel) (by decide +kernel), gt_in 897 (by decide +kernel) (by decide +kernel), gt_in 112 (by decide +kernel) (by decide +kernel), gt_in 898 (by decide +kernel) (by decide +kernel), by decide +kernel⟩
theorem v_L_77 : Vw_ RL 77 RX11 yX11_accept cX11_accept 2 (some .int) 1 := ⟨gt_in 899 (by decide +kernel) (by decide +kernel), gt_in 900 (by decide +kernel) (by decide +kernel), gt_in 901 (by decide +kernel) (by decide +kernel), gt_in 105 (by decide +kernel) (by decide +kernel), gt_in 902 (by decide +kernel) (by decide +kernel), by decide +kernel⟩
theorem v_11_244 : Vw_ RX11 244 RX1 yX1_tryToAccept cX1_tryToAccept 2 (some .int) 1 := ⟨gt_in 903 (by decide +kernel) (by decide +kernel), gt_in 904 (by decide +kernel) (by decide +kernel), gt_in 905 (by decide +kernel) (by decide +kernel), gt_in 112 (by decide +kernel) (by decide +kernel), gt_in 906 (by decide +kernel) (by decide +kernel), by decide +kernel⟩
theorem v_L_81 : Vw_ RL 81 RX11 yX11_die cX11_die 2 (some .int) 1 := ⟨gt_in 907 (by decide +kernel) (by decide +kernel), gt_in 908 (by decide +kernel) (by decide +kernel), gt_in 909 (by decide +kernel) (by decide +kernel), gt_in 105 (by decide +kernel) (by decide +kernel), gt_in 910 (by decide +kernel) (by decide +kernel), by decide +kernel⟩
theorem v_11_247 : Vw_ RX11 247 RX1 yX1_tryToDie cX1_tryToDie 2 (some .int) 1 := ⟨gt_in 911 (by decide +kernel) (by decide +kernel), gt_in 912 (by decide +kernel) (by decide +kernel), gt_in 913 (by decide +kernel) (by decide +kernel), gt_in 112 (by decide +kernel) (by decide +kernel), gt_in 914 (by decide +kernel) (by decide +kernel), by decide +kernel⟩
theorem v_L_85 : Vw_ RL 85 RX11 yX11_meals cX11_meals 2 (some .int) 1 := ⟨gt_in 915 (by decide +kernel) (by decide +kernel), gt_in 916 (by decide +kernel) (by decide +kernel), gt_in 917 (by decide +kernel) (by decide +kernel), gt_in 105 (by decide +kernel) (by decide +kernel), gt_in 918 (by decide +kernel) (by decide +kernel), by decide +kernel⟩
theorem v_11_250 : Vw_ RX11 250 RX1 yX1_letMealsGo cX1_letMealsGo 3 (some .int) 1 := ⟨gt_in 919 (by decide +kernel) (by decide +kernel), gt_in 920 (by decide +kernel) (by decide +kernel), gt_in 921 (by decide +kernel) (by decide +kernel), gt_in 112 (by decide +kernel) (by decide +kernel), gt_in 922 (by decide +kernel) (by decide +kernel), by decide +kernel⟩
theorem v_1_126 : Vw_ RX1 126 RX1 yX1_endMeal cX1_endMeal 4 none 0 := ⟨gt_in 923 (by decide +kernel) (by decide +kernel), gt_in 925 (by decide +kernel) (by decide +kernel), gt_in 14 (by decide +kernel) (by decide +kernel), gt_in 112 (by decide +kernel) (by decide +kernel), gt_in 926 (by decide +kernel) (by decide +kernel), by decide +kernel⟩
theorem v_11_253 : Vw_ RX11 253 RX11 yX11_keptIfAny cX11_keptIfAny 2 (some .int) 1 := ⟨gt_in 927 (by decide +kernel) (by decide +kernel), gt_in 929 (by decide +kernel) (by decide +kernel), gt_in 15 (by decide +kernel) (by decide +kernel), gt_in 105 (by decide +kernel) (by decide +kernel), gt_in 930 (by decide +kernel) (by decide +kernel), by decide +kernel⟩
theorem v_L_89 : Vw_ RL 89 RX11 yX11_undo cX11_undo 1 (some .int) 0 := ⟨gt_in 931 (by decide +kernel) (by decide +kernel), gt_in 932 (by decide +kernel) (by decide +kernel), gt_in 933 (by decide +kernel) (by decide +kernel), gt_in 105 (by decide +kernel) (by decide +kernel), gt_in 934 (by decide +kernel) (by decide +kernel), by decide +kernel⟩
theorem v_11_256 : Vw_ RX11 256 RX5 yX5_takeBack cX5_takeBack 2 (some .int) 1 := ⟨gt_in 935 (by decide +kernel) (by decide +kernel), gt_in 936 (by decide +kernel) (by decide +kernel), gt_in 937 (by decide +kernel) (by decide +kernel), gt_in 113 (by decide +kernel) (by decide +kernel), gt_in 938 (by decide +kernel) (by decide +kernel), by decide +kernel⟩
theorem v_L_93 : Vw_ RL 93 RX11 yX11_heir cX11_heir 2 (some .int) 1 := ⟨gt_in 939 (by decide +kernel) (by decide +kernel), gt_in 940 (by decide +kernel) (by decide +kernel), gt_in 941 (by decide +kernel) (by decide +kernel), gt_in 105 (by decide +kernel) (by decide +kernel), gt_in 942 (by decide +kernel) (by decide +kernel), by decide +kernel⟩
theorem v_11_263 : Vw_ RX11 263 RX1 yX1_heirOf cX1_heirOf 5 (some .int) 2 := ⟨gt_in 943 (by decide +kernel) (by decide +kernel), gt_in 874 (by decide +kernel) (by decide +kernel), gt_in 875 (by decide +kernel) (by decide +kernel), gt_in 112 (by decide +kernel) (by decide +kernel), gt_in 876 (by decide +kernel) (by decide +kernel), by decide +kernel⟩
theorem v_L_97 : Vw_ RL 97 RX11 yX11_line cX11_line 6 (some .int) 2 := ⟨gt_in 944 (by decide +kernel) (by decide +kernel), gt_in 945 (by decide +kernel) (by decide +kernel), gt_in 946 (by decide +kernel) (by decide +kernel), gt_in 105 (by decide +kernel) (by decide +kernel), gt_in 947 (by decide +kernel) (by decide +kernel), by decide +kernel⟩
theorem v_L_101 : Vw_ RL 101 RX11 yX11_order cX11_order 1 (some .int) 0 := ⟨gt_in 948 (by decide +kernel) (by decide +kernel), gt_in 949 (by decide +kernel) (by decide +kernel), gt_in 950 (by decide +kernel) (by decide +kernel), gt_in 105 (by decide +kernel) (by decide +kernel), gt_in 951 (by decide +kernel) (by decide +kernel), by decide +kernel⟩
theorem v_11_266 : Vw_ RX11 266 RX4 yX4_findFrom cX4_findFrom 2 (some .int) 1 := ⟨gt_in 952 (by decide +kernel) (by decide +kernel), gt_in 953 (by decide +kernel) (by decide +kernel), gt_in 954 (by decide +kernel) (by decide +kernel), gt_in 117 (by decide +kernel) (by decide +kernel), gt_in 955 (by decide +kernel) (by decide +kernel), by decide +kernel⟩
theorem v_4_34 : Vw_ RX4 34 RX1 yX1_living cX1_living 1 (some .int) 0 := ⟨gt_in 956 (by decide +kernel) (by decide +kernel), gt_in 957 (by decide +kernel) (by decide +kernel), gt_in 958 (by decide +kernel) (by decide +kernel), gt_in 112 (by decide +kernel) (by decide +kernel), gt_in 959 (by decide +kernel) (by decide +kernel), by decide +kernel⟩
theorem s_4_38 : Sw_ RX4 38 yJ6_bitCount_0f7a4 cJ6_bitCount_0f7a4 1 (some .int) 1 := ⟨gt_in 960 (by decide +kernel) (by decide +kernel), gt_in 961 (by decide +kernel) (by decide +kernel), gt_in 128 (by decide +kernel) (by decide +kernel), gt_in 962 (by decide +kernel) (by decide +kernel), by decide +kernel⟩
theorem v_4_44 : Vw_ RX4 44 RX1 yX1_become cX1_become 2 none 1 := ⟨gt_in 966 (by decide +kernel) (by decide +kernel), gt_in 760 (by decide +kernel) (by decide +kernel), gt_in 761 (by decide +kernel) (by decide +kernel), gt_in 112 (by decide +kernel) (by decide +kernel), gt_in 762 (by decide +kernel) (by decide +kernel), by decide +kernel⟩
theorem v_4_48 : Vw_ RX4 48 RX4 yX4_goOn cX4_goOn 9 none 3 := ⟨gt_in 967 (by decide +kernel) (by decide +kernel), gt_in 969 (by decide +kernel) (by decide +kernel), gt_in 16 (by decide +kernel) (by decide +kernel), gt_in 117 (by decide +kernel) (by decide +kernel), gt_in 970 (by decide +kernel) (by decide +kernel), by decide +kernel⟩
theorem v_4_58 : Vw_ RX4 58 RX1 yX1_eatAll cX1_eatAll 3 none 1 := ⟨gt_in 972 (by decide +kernel) (by decide +kernel), gt_in 973 (by decide +kernel) (by decide +kernel), gt_in 974 (by decide +kernel) (by decide +kernel), gt_in 112 (by decide +kernel) (by decide +kernel), gt_in 975 (by decide +kernel) (by decide +kernel), by decide +kernel⟩
theorem v_4_62 : Vw_ RX4 62 RX1 yX1_tryToRise cX1_tryToRise 2 (some .int) 1 := ⟨gt_in 976 (by decide +kernel) (by decide +kernel), gt_in 866 (by decide +kernel) (by decide +kernel), gt_in 867 (by decide +kernel) (by decide +kernel), gt_in 112 (by decide +kernel) (by decide +kernel), gt_in 868 (by decide +kernel) (by decide +kernel), by decide +kernel⟩
theorem v_4_65 : Vw_ RX4 65 RX1 yX1_wantsYet cX1_wantsYet 2 (some .int) 1 := ⟨gt_in 977 (by decide +kernel) (by decide +kernel), gt_in 836 (by decide +kernel) (by decide +kernel), gt_in 837 (by decide +kernel) (by decide +kernel), gt_in 112 (by decide +kernel) (by decide +kernel), gt_in 838 (by decide +kernel) (by decide +kernel), by decide +kernel⟩
theorem s_4_68 : Sw_ RX4 68 yX4_atLeastWanted cX4_atLeastWanted 4 (some .int) 2 := ⟨gt_in 978 (by decide +kernel) (by decide +kernel), gt_in 979 (by decide +kernel) (by decide +kernel), gt_in 117 (by decide +kernel) (by decide +kernel), gt_in 980 (by decide +kernel) (by decide +kernel), by decide +kernel⟩
theorem s_4_84 : Sw_ RX4 84 yJ9_max_7cf53 cJ9_max_7cf53 2 (some .int) 2 := ⟨gt_in 981 (by decide +kernel) (by decide +kernel), gt_in 982 (by decide +kernel) (by decide +kernel), gt_in 122 (by decide +kernel) (by decide +kernel), gt_in 983 (by decide +kernel) (by decide +kernel), by decide +kernel⟩
theorem v_L_105 : Vw_ RL 105 RX11 yX11_orderAt cX11_orderAt 2 (some .int) 1 := ⟨gt_in 984 (by decide +kernel) (by decide +kernel), gt_in 985 (by decide +kernel) (by decide +kernel), gt_in 986 (by decide +kernel) (by decide +kernel), gt_in 105 (by decide +kernel) (by decide +kernel), gt_in 987 (by decide +kernel) (by decide +kernel), by decide +kernel⟩
theorem v_L_109 : Vw_ RL 109 RX11 yX11_eaters cX11_eaters 4 (some .int) 0 := ⟨gt_in 988 (by decide +kernel) (by decide +kernel), gt_in 989 (by decide +kernel) (by decide +kernel), gt_in 990 (by decide +kernel) (by decide +kernel), gt_in 105 (by decide +kernel) (by decide +kernel), gt_in 991 (by decide +kernel) (by decide +kernel), by decide +kernel⟩
theorem v_11_275 : Vw_ RX11 275 RX10 yX10_byteOf cX10_byteOf 2 (some .int) 1 := ⟨gt_in 992 (by decide +kernel) (by decide +kernel), gt_in 993 (by decide +kernel) (by decide +kernel), gt_in 994 (by decide +kernel) (by decide +kernel), gt_in 106 (by decide +kernel) (by decide +kernel), gt_in 995 (by decide +kernel) (by decide +kernel), by decide +kernel⟩
theorem v_11_278 : Vw_ RX11 278 RX2 yX2_setsWith cX2_setsWith 8 (some .int) 3 := ⟨gt_in 996 (by decide +kernel) (by decide +kernel), gt_in 997 (by decide +kernel) (by decide +kernel), gt_in 998 (by decide +kernel) (by decide +kernel), gt_in 119 (by decide +kernel) (by decide +kernel), gt_in 999 (by decide +kernel) (by decide +kernel), by decide +kernel⟩
theorem v_2_28 : Vw_ RX2 28 RX8 yX8_everybody cX8_everybody 1 (some .int) 0 := ⟨gt_in 1000 (by decide +kernel) (by decide +kernel), gt_in 794 (by decide +kernel) (by decide +kernel), gt_in 795 (by decide +kernel) (by decide +kernel), gt_in 111 (by decide +kernel) (by decide +kernel), gt_in 796 (by decide +kernel) (by decide +kernel), by decide +kernel⟩
theorem v_2_34 : Vw_ RX2 34 RX1 yX1_onPlatesOf cX1_onPlatesOf 5 (some .int) 2 := ⟨gt_in 1001 (by decide +kernel) (by decide +kernel), gt_in 798 (by decide +kernel) (by decide +kernel), gt_in 799 (by decide +kernel) (by decide +kernel), gt_in 112 (by decide +kernel) (by decide +kernel), gt_in 800 (by decide +kernel) (by decide +kernel), by decide +kernel⟩
theorem v_2_38 : Vw_ RX2 38 RX2 yX2_countIn cX2_countIn 3 none 1 := ⟨gt_in 1002 (by decide +kernel) (by decide +kernel), gt_in 1004 (by decide +kernel) (by decide +kernel), gt_in 17 (by decide +kernel) (by decide +kernel), gt_in 119 (by decide +kernel) (by decide +kernel), gt_in 1005 (by decide +kernel) (by decide +kernel), by decide +kernel⟩
theorem v_2_45 : Vw_ RX2 45 RX2 yX2_nearestToHalf cX2_nearestToHalf 7 (some .int) 2 := ⟨gt_in 1006 (by decide +kernel) (by decide +kernel), gt_in 1008 (by decide +kernel) (by decide +kernel), gt_in 18 (by decide +kernel) (by decide +kernel), gt_in 119 (by decide +kernel) (by decide +kernel), gt_in 1009 (by decide +kernel) (by decide +kernel), by decide +kernel⟩
theorem s_2_48 : Sw_ RX2 48 yJ9_abs_0f7a4 cJ9_abs_0f7a4 1 (some .int) 1 := ⟨gt_in 1010 (by decide +kernel) (by decide +kernel), gt_in 1011 (by decide +kernel) (by decide +kernel), gt_in 122 (by decide +kernel) (by decide +kernel), gt_in 1012 (by decide +kernel) (by decide +kernel), by decide +kernel⟩
theorem v_L_113 : Vw_ RL 113 RX11 yX11_surely cX11_surely 1 (some .int) 0 := ⟨gt_in 1013 (by decide +kernel) (by decide +kernel), gt_in 1014 (by decide +kernel) (by decide +kernel), gt_in 1015 (by decide +kernel) (by decide +kernel), gt_in 105 (by decide +kernel) (by decide +kernel), gt_in 1016 (by decide +kernel) (by decide +kernel), by decide +kernel⟩
theorem v_L_117 : Vw_ RL 117 RX11 yX11_ask cX11_ask 1 (some .int) 0 := ⟨gt_in 1017 (by decide +kernel) (by decide +kernel), gt_in 1018 (by decide +kernel) (by decide +kernel), gt_in 1019 (by decide +kernel) (by decide +kernel), gt_in 105 (by decide +kernel) (by decide +kernel), gt_in 1020 (by decide +kernel) (by decide +kernel), by decide +kernel⟩
theorem v_L_121 : Vw_ RL 121 RX11 yX11_share cX11_share 5 (some .int) 3 := ⟨gt_in 1021 (by decide +kernel) (by decide +kernel), gt_in 1022 (by decide +kernel) (by decide +kernel), gt_in 1023 (by decide +kernel) (by decide +kernel), gt_in 105 (by decide +kernel) (by decide +kernel), gt_in 1024 (by decide +kernel) (by decide +kernel), by decide +kernel⟩
theorem v_11_288 : Vw_ RX11 288 RX8 yX8_shareOf cX8_shareOf 10 (some .int) 3 := ⟨gt_in 1025 (by decide +kernel) (by decide +kernel), gt_in 1026 (by decide +kernel) (by decide +kernel), gt_in 1027 (by decide +kernel) (by decide +kernel), gt_in 111 (by decide +kernel) (by decide +kernel), gt_in 1028 (by decide +kernel) (by decide +kernel), by decide +kernel⟩
theorem v_L_125 : Vw_ RL 125 RX11 yX11_last cX11_last 2 (some .int) 1 := ⟨gt_in 1029 (by decide +kernel) (by decide +kernel), gt_in 1030 (by decide +kernel) (by decide +kernel), gt_in 1031 (by decide +kernel) (by decide +kernel), gt_in 105 (by decide +kernel) (by decide +kernel), gt_in 1032 (by decide +kernel) (by decide +kernel), by decide +kernel⟩
theorem v_L_129 : Vw_ RL 129 RX11 yX11_seats cX11_seats 1 (some .int) 0 := ⟨gt_in 1033 (by decide +kernel) (by decide +kernel), gt_in 1034 (by decide +kernel) (by decide +kernel), gt_in 1035 (by decide +kernel) (by decide +kernel), gt_in 105 (by decide +kernel) (by decide +kernel), gt_in 1036 (by decide +kernel) (by decide +kernel), by decide +kernel⟩
theorem v_11_291 : Vw_ RX11 291 RX6 yX6_seat cX6_seat 9 (some .int) 1 := ⟨gt_in 1037 (by decide +kernel) (by decide +kernel), gt_in 1038 (by decide +kernel) (by decide +kernel), gt_in 1039 (by decide +kernel) (by decide +kernel), gt_in 118 (by decide +kernel) (by decide +kernel), gt_in 1040 (by decide +kernel) (by decide +kernel), by decide +kernel⟩
theorem v_6_25 : Vw_ RX6 25 RX1 yX1_living cX1_living 1 (some .int) 0 := ⟨gt_in 1041 (by decide +kernel) (by decide +kernel), gt_in 957 (by decide +kernel) (by decide +kernel), gt_in 958 (by decide +kernel) (by decide +kernel), gt_in 112 (by decide +kernel) (by decide +kernel), gt_in 959 (by decide +kernel) (by decide +kernel), by decide +kernel⟩
theorem s_6_29 : Sw_ RX6 29 yX6_parentsAmong cX6_parentsAmong 5 (some .int) 3 := ⟨gt_in 1042 (by decide +kernel) (by decide +kernel), gt_in 1043 (by decide +kernel) (by decide +kernel), gt_in 118 (by decide +kernel) (by decide +kernel), gt_in 1044 (by decide +kernel) (by decide +kernel), by decide +kernel⟩
theorem v_6_48 : Vw_ RX6 48 RX8 yX8_childrenOf cX8_childrenOf 4 (some .int) 1 := ⟨gt_in 1045 (by decide +kernel) (by decide +kernel), gt_in 883 (by decide +kernel) (by decide +kernel), gt_in 884 (by decide +kernel) (by decide +kernel), gt_in 111 (by decide +kernel) (by decide +kernel), gt_in 885 (by decide +kernel) (by decide +kernel), by decide +kernel⟩
theorem s_6_38 : Sw_ RX6 38 yX6_leastFor cX6_leastFor 6 (some .int) 4 := ⟨gt_in 1046 (by decide +kernel) (by decide +kernel), gt_in 1047 (by decide +kernel) (by decide +kernel), gt_in 118 (by decide +kernel) (by decide +kernel), gt_in 1048 (by decide +kernel) (by decide +kernel), by decide +kernel⟩
theorem s_6_42 : Sw_ RX6 42 yX6_isChild cX6_isChild 3 (some .int) 3 := ⟨gt_in 1049 (by decide +kernel) (by decide +kernel), gt_in 1050 (by decide +kernel) (by decide +kernel), gt_in 118 (by decide +kernel) (by decide +kernel), gt_in 1051 (by decide +kernel) (by decide +kernel), by decide +kernel⟩
theorem v_L_133 : Vw_ RL 133 RX11 yX11_seatAt cX11_seatAt 2 (some .int) 1 := ⟨gt_in 1052 (by decide +kernel) (by decide +kernel), gt_in 1053 (by decide +kernel) (by decide +kernel), gt_in 1054 (by decide +kernel) (by decide +kernel), gt_in 105 (by decide +kernel) (by decide +kernel), gt_in 1055 (by decide +kernel) (by decide +kernel), by decide +kernel⟩
theorem v_L_137 : Vw_ RL 137 RX11 yX11_left cX11_left 5 (some .int) 1 := ⟨gt_in 1056 (by decide +kernel) (by decide +kernel), gt_in 1057 (by decide +kernel) (by decide +kernel), gt_in 1058 (by decide +kernel) (by decide +kernel), gt_in 105 (by decide +kernel) (by decide +kernel), gt_in 1059 (by decide +kernel) (by decide +kernel), by decide +kernel⟩
theorem v_L_141 : Vw_ RL 141 RX11 yX11_kin cX11_kin 3 (some .int) 2 := ⟨gt_in 1060 (by decide +kernel) (by decide +kernel), gt_in 1061 (by decide +kernel) (by decide +kernel), gt_in 1062 (by decide +kernel) (by decide +kernel), gt_in 105 (by decide +kernel) (by decide +kernel), gt_in 1063 (by decide +kernel) (by decide +kernel), by decide +kernel⟩
theorem v_11_298 : Vw_ RX11 298 RX8 yX8_stepsBetween cX8_stepsBetween 7 (some .int) 2 := ⟨gt_in 1064 (by decide +kernel) (by decide +kernel), gt_in 1065 (by decide +kernel) (by decide +kernel), gt_in 1066 (by decide +kernel) (by decide +kernel), gt_in 111 (by decide +kernel) (by decide +kernel), gt_in 1067 (by decide +kernel) (by decide +kernel), by decide +kernel⟩
theorem s_8_47 : Sw_ RX8 47 yJ9_max_7cf53 cJ9_max_7cf53 2 (some .int) 2 := ⟨gt_in 1068 (by decide +kernel) (by decide +kernel), gt_in 982 (by decide +kernel) (by decide +kernel), gt_in 122 (by decide +kernel) (by decide +kernel), gt_in 983 (by decide +kernel) (by decide +kernel), by decide +kernel⟩
theorem s_8_53 : Sw_ RX8 53 yJ9_min_7cf53 cJ9_min_7cf53 2 (some .int) 2 := ⟨gt_in 1069 (by decide +kernel) (by decide +kernel), gt_in 663 (by decide +kernel) (by decide +kernel), gt_in 122 (by decide +kernel) (by decide +kernel), gt_in 664 (by decide +kernel) (by decide +kernel), by decide +kernel⟩
theorem v_L_145 : Vw_ RL 145 RX11 yX11_hungriest cX11_hungriest 3 (some .int) 0 := ⟨gt_in 1070 (by decide +kernel) (by decide +kernel), gt_in 1071 (by decide +kernel) (by decide +kernel), gt_in 1072 (by decide +kernel) (by decide +kernel), gt_in 105 (by decide +kernel) (by decide +kernel), gt_in 1073 (by decide +kernel) (by decide +kernel), by decide +kernel⟩
theorem v_11_301 : Vw_ RX11 301 RX1 yX1_lives cX1_lives 2 (some .boolean) 1 := ⟨gt_in 1074 (by decide +kernel) (by decide +kernel), gt_in 832 (by decide +kernel) (by decide +kernel), gt_in 833 (by decide +kernel) (by decide +kernel), gt_in 112 (by decide +kernel) (by decide +kernel), gt_in 834 (by decide +kernel) (by decide +kernel), by decide +kernel⟩
theorem v_L_149 : Vw_ RL 149 RX11 yX11_will cX11_will 4 (some .int) 1 := ⟨gt_in 1075 (by decide +kernel) (by decide +kernel), gt_in 1076 (by decide +kernel) (by decide +kernel), gt_in 1077 (by decide +kernel) (by decide +kernel), gt_in 105 (by decide +kernel) (by decide +kernel), gt_in 1078 (by decide +kernel) (by decide +kernel), by decide +kernel⟩
theorem v_11_308 : Vw_ RX11 308 RX11 yX11_writeName cX11_writeName 5 none 1 := ⟨gt_in 1079 (by decide +kernel) (by decide +kernel), gt_in 1081 (by decide +kernel) (by decide +kernel), gt_in 19 (by decide +kernel) (by decide +kernel), gt_in 105 (by decide +kernel) (by decide +kernel), gt_in 1082 (by decide +kernel) (by decide +kernel), by decide +kernel⟩
theorem v_11_334 : Vw_ RX11 334 RX11 yX11_writeByte cX11_writeByte 2 none 1 := ⟨gt_in 1083 (by decide +kernel) (by decide +kernel), gt_in 1085 (by decide +kernel) (by decide +kernel), gt_in 20 (by decide +kernel) (by decide +kernel), gt_in 105 (by decide +kernel) (by decide +kernel), gt_in 1086 (by decide +kernel) (by decide +kernel), by decide +kernel⟩
theorem v_11_314 : Vw_ RX11 314 RX11 yX11_write cX11_write 3 none 1 := ⟨gt_in 1088 (by decide +kernel) (by decide +kernel), gt_in 1090 (by decide +kernel) (by decide +kernel), gt_in 21 (by decide +kernel) (by decide +kernel), gt_in 105 (by decide +kernel) (by decide +kernel), gt_in 1091 (by decide +kernel) (by decide +kernel), by decide +kernel⟩
theorem v_11_319 : Vw_ RX11 319 RX11 yX11_writeNumber cX11_writeNumber 4 none 1 := ⟨gt_in 1095 (by decide +kernel) (by decide +kernel), gt_in 1097 (by decide +kernel) (by decide +kernel), gt_in 22 (by decide +kernel) (by decide +kernel), gt_in 105 (by decide +kernel) (by decide +kernel), gt_in 1098 (by decide +kernel) (by decide +kernel), by decide +kernel⟩
theorem v_L_153 : Vw_ RL 153 RX11 yX11_byteAt cX11_byteAt 2 (some .int) 1 := ⟨gt_in 1101 (by decide +kernel) (by decide +kernel), gt_in 1102 (by decide +kernel) (by decide +kernel), gt_in 1103 (by decide +kernel) (by decide +kernel), gt_in 105 (by decide +kernel) (by decide +kernel), gt_in 1104 (by decide +kernel) (by decide +kernel), by decide +kernel⟩
theorem v_L_157 : Vw_ RL 157 RX11 yX11_drawn cX11_drawn 3 (some .int) 2 := ⟨gt_in 1105 (by decide +kernel) (by decide +kernel), gt_in 1106 (by decide +kernel) (by decide +kernel), gt_in 1107 (by decide +kernel) (by decide +kernel), gt_in 105 (by decide +kernel) (by decide +kernel), gt_in 1108 (by decide +kernel) (by decide +kernel), by decide +kernel⟩
theorem v_11_337 : Vw_ RX11 337 RX1 yX1_drawMeals cX1_drawMeals 5 (some .int) 2 := ⟨gt_in 1109 (by decide +kernel) (by decide +kernel), gt_in 1110 (by decide +kernel) (by decide +kernel), gt_in 1111 (by decide +kernel) (by decide +kernel), gt_in 112 (by decide +kernel) (by decide +kernel), gt_in 1112 (by decide +kernel) (by decide +kernel), by decide +kernel⟩
theorem v_1_142 : Vw_ RX1 142 RX1 yX1_actByDraw cX1_actByDraw 3 none 1 := ⟨gt_in 1113 (by decide +kernel) (by decide +kernel), gt_in 1115 (by decide +kernel) (by decide +kernel), gt_in 23 (by decide +kernel) (by decide +kernel), gt_in 112 (by decide +kernel) (by decide +kernel), gt_in 1116 (by decide +kernel) (by decide +kernel), by decide +kernel⟩
theorem v_1_130 : Vw_ RX1 130 RX1 yX1_draw cX1_draw 2 (some .int) 1 := ⟨gt_in 1117 (by decide +kernel) (by decide +kernel), gt_in 1119 (by decide +kernel) (by decide +kernel), gt_in 24 (by decide +kernel) (by decide +kernel), gt_in 112 (by decide +kernel) (by decide +kernel), gt_in 1120 (by decide +kernel) (by decide +kernel), by decide +kernel⟩
theorem v_1_133 : Vw_ RX1 133 RX1 yX1_tryToRise cX1_tryToRise 2 (some .int) 1 := ⟨gt_in 1122 (by decide +kernel) (by decide +kernel), gt_in 866 (by decide +kernel) (by decide +kernel), gt_in 867 (by decide +kernel) (by decide +kernel), gt_in 112 (by decide +kernel) (by decide +kernel), gt_in 868 (by decide +kernel) (by decide +kernel), by decide +kernel⟩
theorem v_1_136 : Vw_ RX1 136 RX1 yX1_eatAll cX1_eatAll 3 none 1 := ⟨gt_in 1123 (by decide +kernel) (by decide +kernel), gt_in 973 (by decide +kernel) (by decide +kernel), gt_in 974 (by decide +kernel) (by decide +kernel), gt_in 112 (by decide +kernel) (by decide +kernel), gt_in 975 (by decide +kernel) (by decide +kernel), by decide +kernel⟩
theorem v_1_139 : Vw_ RX1 139 RX1 yX1_tryToDie cX1_tryToDie 2 (some .int) 1 := ⟨gt_in 1124 (by decide +kernel) (by decide +kernel), gt_in 912 (by decide +kernel) (by decide +kernel), gt_in 913 (by decide +kernel) (by decide +kernel), gt_in 112 (by decide +kernel) (by decide +kernel), gt_in 914 (by decide +kernel) (by decide +kernel), by decide +kernel⟩
theorem v_L_161 : Vw_ RL 161 RX11 yX11_odds cX11_odds 6 (some .int) 3 := ⟨gt_in 1125 (by decide +kernel) (by decide +kernel), gt_in 1126 (by decide +kernel) (by decide +kernel), gt_in 1127 (by decide +kernel) (by decide +kernel), gt_in 105 (by decide +kernel) (by decide +kernel), gt_in 1128 (by decide +kernel) (by decide +kernel), by decide +kernel⟩
theorem v_L_165 : Vw_ RL 165 RX11 yX11_book cX11_book 2 (some .int) 1 := ⟨gt_in 1129 (by decide +kernel) (by decide +kernel), gt_in 1130 (by decide +kernel) (by decide +kernel), gt_in 1131 (by decide +kernel) (by decide +kernel), gt_in 105 (by decide +kernel) (by decide +kernel), gt_in 1132 (by decide +kernel) (by decide +kernel), by decide +kernel⟩
theorem v_11_340 : Vw_ RX11 340 RX0 yX0_readFrom cX0_readFrom 3 none 2 := ⟨gt_in 1133 (by decide +kernel) (by decide +kernel), gt_in 1134 (by decide +kernel) (by decide +kernel), gt_in 1135 (by decide +kernel) (by decide +kernel), gt_in 115 (by decide +kernel) (by decide +kernel), gt_in 1136 (by decide +kernel) (by decide +kernel), by decide +kernel⟩
theorem v_0_44 : Vw_ RX0 44 RX10 yX10_begin cX10_begin 5 none 1 := ⟨gt_in 1137 (by decide +kernel) (by decide +kernel), gt_in 659 (by decide +kernel) (by decide +kernel), gt_in 660 (by decide +kernel) (by decide +kernel), gt_in 106 (by decide +kernel) (by decide +kernel), gt_in 661 (by decide +kernel) (by decide +kernel), by decide +kernel⟩
theorem v_0_53 : Vw_ RX0 53 RX0 yX0_readLine cX0_readLine 5 (some .boolean) 2 := ⟨gt_in 1138 (by decide +kernel) (by decide +kernel), gt_in 1140 (by decide +kernel) (by decide +kernel), gt_in 25 (by decide +kernel) (by decide +kernel), gt_in 115 (by decide +kernel) (by decide +kernel), gt_in 1141 (by decide +kernel) (by decide +kernel), by decide +kernel⟩
theorem v_0_57 : Vw_ RX0 57 RX10 yX10_fail cX10_fail 2 (some .boolean) 1 := ⟨gt_in 1142 (by decide +kernel) (by decide +kernel), gt_in 699 (by decide +kernel) (by decide +kernel), gt_in 700 (by decide +kernel) (by decide +kernel), gt_in 106 (by decide +kernel) (by decide +kernel), gt_in 701 (by decide +kernel) (by decide +kernel), by decide +kernel⟩
theorem v_0_65 : Vw_ RX0 65 RX8 yX8_personNamed cX8_personNamed 4 (some .int) 1 := ⟨gt_in 1143 (by decide +kernel) (by decide +kernel), gt_in 708 (by decide +kernel) (by decide +kernel), gt_in 709 (by decide +kernel) (by decide +kernel), gt_in 111 (by decide +kernel) (by decide +kernel), gt_in 710 (by decide +kernel) (by decide +kernel), by decide +kernel⟩
theorem v_0_71 : Vw_ RX0 71 RX10 yX10_advance cX10_advance 1 none 0 := ⟨gt_in 1144 (by decide +kernel) (by decide +kernel), gt_in 687 (by decide +kernel) (by decide +kernel), gt_in 688 (by decide +kernel) (by decide +kernel), gt_in 106 (by decide +kernel) (by decide +kernel), gt_in 689 (by decide +kernel) (by decide +kernel), by decide +kernel⟩
theorem v_0_74 : Vw_ RX0 74 RX0 yX0_readAct cX0_readAct 7 (some .boolean) 2 := ⟨gt_in 1145 (by decide +kernel) (by decide +kernel), gt_in 1147 (by decide +kernel) (by decide +kernel), gt_in 26 (by decide +kernel) (by decide +kernel), gt_in 115 (by decide +kernel) (by decide +kernel), gt_in 1148 (by decide +kernel) (by decide +kernel), by decide +kernel⟩
theorem v_0_80 : Vw_ RX0 80 RX8 yX8_dishNamed cX8_dishNamed 4 (some .int) 1 := ⟨gt_in 1149 (by decide +kernel) (by decide +kernel), gt_in 712 (by decide +kernel) (by decide +kernel), gt_in 713 (by decide +kernel) (by decide +kernel), gt_in 111 (by decide +kernel) (by decide +kernel), gt_in 714 (by decide +kernel) (by decide +kernel), by decide +kernel⟩
theorem v_0_83 : Vw_ RX0 83 RX10 yX10_takeName cX10_takeName 2 (some .int) 1 := ⟨gt_in 1150 (by decide +kernel) (by decide +kernel), gt_in 721 (by decide +kernel) (by decide +kernel), gt_in 722 (by decide +kernel) (by decide +kernel), gt_in 106 (by decide +kernel) (by decide +kernel), gt_in 723 (by decide +kernel) (by decide +kernel), by decide +kernel⟩
theorem s_0_87 : Sw_ RX0 87 yX0_mostOf cX0_mostOf 1 (some .int) 1 := ⟨gt_in 1151 (by decide +kernel) (by decide +kernel), gt_in 1152 (by decide +kernel) (by decide +kernel), gt_in 115 (by decide +kernel) (by decide +kernel), gt_in 1153 (by decide +kernel) (by decide +kernel), by decide +kernel⟩
theorem v_0_90 : Vw_ RX0 90 RX10 yX10_takeNumber cX10_takeNumber 4 (some .int) 2 := ⟨gt_in 1154 (by decide +kernel) (by decide +kernel), gt_in 716 (by decide +kernel) (by decide +kernel), gt_in 717 (by decide +kernel) (by decide +kernel), gt_in 106 (by decide +kernel) (by decide +kernel), gt_in 718 (by decide +kernel) (by decide +kernel), by decide +kernel⟩
theorem v_0_77 : Vw_ RX0 77 RX10 yX10_take cX10_take 2 (some .boolean) 1 := ⟨gt_in 1155 (by decide +kernel) (by decide +kernel), gt_in 725 (by decide +kernel) (by decide +kernel), gt_in 726 (by decide +kernel) (by decide +kernel), gt_in 106 (by decide +kernel) (by decide +kernel), gt_in 727 (by decide +kernel) (by decide +kernel), by decide +kernel⟩
theorem v_11_343 : Vw_ RX11 343 RX0 yX0_judgeBy cX0_judgeBy 2 none 1 := ⟨gt_in 1156 (by decide +kernel) (by decide +kernel), gt_in 1157 (by decide +kernel) (by decide +kernel), gt_in 1158 (by decide +kernel) (by decide +kernel), gt_in 115 (by decide +kernel) (by decide +kernel), gt_in 1159 (by decide +kernel) (by decide +kernel), by decide +kernel⟩
theorem v_0_94 : Vw_ RX0 94 RX0 yX0_live cX0_live 4 (some .int) 2 := ⟨gt_in 1160 (by decide +kernel) (by decide +kernel), gt_in 1162 (by decide +kernel) (by decide +kernel), gt_in 27 (by decide +kernel) (by decide +kernel), gt_in 115 (by decide +kernel) (by decide +kernel), gt_in 1163 (by decide +kernel) (by decide +kernel), by decide +kernel⟩
theorem v_0_106 : Vw_ RX0 106 RX1 yX1_tryToEat cX1_tryToEat 4 (some .int) 3 := ⟨gt_in 1164 (by decide +kernel) (by decide +kernel), gt_in 828 (by decide +kernel) (by decide +kernel), gt_in 829 (by decide +kernel) (by decide +kernel), gt_in 112 (by decide +kernel) (by decide +kernel), gt_in 830 (by decide +kernel) (by decide +kernel), by decide +kernel⟩
theorem v_0_110 : Vw_ RX0 110 RX1 yX1_tryToServe cX1_tryToServe 4 (some .int) 3 := ⟨gt_in 1165 (by decide +kernel) (by decide +kernel), gt_in 858 (by decide +kernel) (by decide +kernel), gt_in 859 (by decide +kernel) (by decide +kernel), gt_in 112 (by decide +kernel) (by decide +kernel), gt_in 860 (by decide +kernel) (by decide +kernel), by decide +kernel⟩
theorem s_0_113 : Sw_ RX0 113 yX0_behind cX0_behind 2 (some .int) 2 := ⟨gt_in 1166 (by decide +kernel) (by decide +kernel), gt_in 1167 (by decide +kernel) (by decide +kernel), gt_in 115 (by decide +kernel) (by decide +kernel), gt_in 1168 (by decide +kernel) (by decide +kernel), by decide +kernel⟩
theorem v_0_116 : Vw_ RX0 116 RX1 yX1_tryToRise cX1_tryToRise 2 (some .int) 1 := ⟨gt_in 1169 (by decide +kernel) (by decide +kernel), gt_in 866 (by decide +kernel) (by decide +kernel), gt_in 867 (by decide +kernel) (by decide +kernel), gt_in 112 (by decide +kernel) (by decide +kernel), gt_in 868 (by decide +kernel) (by decide +kernel), by decide +kernel⟩
theorem v_0_119 : Vw_ RX0 119 RX1 yX1_tryToRefuse cX1_tryToRefuse 2 (some .int) 1 := ⟨gt_in 1170 (by decide +kernel) (by decide +kernel), gt_in 896 (by decide +kernel) (by decide +kernel), gt_in 897 (by decide +kernel) (by decide +kernel), gt_in 112 (by decide +kernel) (by decide +kernel), gt_in 898 (by decide +kernel) (by decide +kernel), by decide +kernel⟩
theorem v_0_122 : Vw_ RX0 122 RX1 yX1_tryToAccept cX1_tryToAccept 2 (some .int) 1 := ⟨gt_in 1171 (by decide +kernel) (by decide +kernel), gt_in 904 (by decide +kernel) (by decide +kernel), gt_in 905 (by decide +kernel) (by decide +kernel), gt_in 112 (by decide +kernel) (by decide +kernel), gt_in 906 (by decide +kernel) (by decide +kernel), by decide +kernel⟩
theorem v_0_125 : Vw_ RX0 125 RX1 yX1_tryToDie cX1_tryToDie 2 (some .int) 1 := ⟨gt_in 1172 (by decide +kernel) (by decide +kernel), gt_in 912 (by decide +kernel) (by decide +kernel), gt_in 913 (by decide +kernel) (by decide +kernel), gt_in 112 (by decide +kernel) (by decide +kernel), gt_in 914 (by decide +kernel) (by decide +kernel), by decide +kernel⟩
theorem s_0_128 : Sw_ RX0 128 yX0_liveMeals cX0_liveMeals 2 (some .int) 2 := ⟨gt_in 1173 (by decide +kernel) (by decide +kernel), gt_in 1174 (by decide +kernel) (by decide +kernel), gt_in 115 (by decide +kernel) (by decide +kernel), gt_in 1175 (by decide +kernel) (by decide +kernel), by decide +kernel⟩
theorem v_0_131 : Vw_ RX0 131 RX1 yX1_letMealsGo cX1_letMealsGo 3 (some .int) 1 := ⟨gt_in 1176 (by decide +kernel) (by decide +kernel), gt_in 920 (by decide +kernel) (by decide +kernel), gt_in 921 (by decide +kernel) (by decide +kernel), gt_in 112 (by decide +kernel) (by decide +kernel), gt_in 922 (by decide +kernel) (by decide +kernel), by decide +kernel⟩
theorem v_L_169 : Vw_ RL 169 RX11 yX11_told cX11_told 2 (some .int) 1 := ⟨gt_in 1177 (by decide +kernel) (by decide +kernel), gt_in 1178 (by decide +kernel) (by decide +kernel), gt_in 1179 (by decide +kernel) (by decide +kernel), gt_in 105 (by decide +kernel) (by decide +kernel), gt_in 1180 (by decide +kernel) (by decide +kernel), by decide +kernel⟩
theorem v_L_173 : Vw_ RL 173 RX11 yX11_sentence cX11_sentence 1 (some .int) 0 := ⟨gt_in 1181 (by decide +kernel) (by decide +kernel), gt_in 1182 (by decide +kernel) (by decide +kernel), gt_in 1183 (by decide +kernel) (by decide +kernel), gt_in 105 (by decide +kernel) (by decide +kernel), gt_in 1184 (by decide +kernel) (by decide +kernel), by decide +kernel⟩
theorem v_11_362 : Vw_ RX11 362 RX7 yX7_readFrom cX7_readFrom 3 (some .boolean) 2 := ⟨gt_in 1185 (by decide +kernel) (by decide +kernel), gt_in 1186 (by decide +kernel) (by decide +kernel), gt_in 1187 (by decide +kernel) (by decide +kernel), gt_in 116 (by decide +kernel) (by decide +kernel), gt_in 1188 (by decide +kernel) (by decide +kernel), by decide +kernel⟩
theorem v_7_37 : Vw_ RX7 37 RX7 yX7_forget cX7_forget 1 none 0 := ⟨gt_in 1189 (by decide +kernel) (by decide +kernel), gt_in 765 (by decide +kernel) (by decide +kernel), gt_in 766 (by decide +kernel) (by decide +kernel), gt_in 116 (by decide +kernel) (by decide +kernel), gt_in 767 (by decide +kernel) (by decide +kernel), by decide +kernel⟩
theorem v_7_40 : Vw_ RX7 40 RX10 yX10_begin cX10_begin 5 none 1 := ⟨gt_in 1190 (by decide +kernel) (by decide +kernel), gt_in 659 (by decide +kernel) (by decide +kernel), gt_in 660 (by decide +kernel) (by decide +kernel), gt_in 106 (by decide +kernel) (by decide +kernel), gt_in 661 (by decide +kernel) (by decide +kernel), by decide +kernel⟩
theorem v_7_46 : Vw_ RX7 46 RX7 yX7_readCond cX7_readCond 6 (some .boolean) 3 := ⟨gt_in 1191 (by decide +kernel) (by decide +kernel), gt_in 1193 (by decide +kernel) (by decide +kernel), gt_in 28 (by decide +kernel) (by decide +kernel), gt_in 116 (by decide +kernel) (by decide +kernel), gt_in 1194 (by decide +kernel) (by decide +kernel), by decide +kernel⟩
theorem v_7_54 : Vw_ RX7 54 RX7 yX7_readAll cX7_readAll 6 (some .boolean) 3 := ⟨gt_in 1195 (by decide +kernel) (by decide +kernel), gt_in 1197 (by decide +kernel) (by decide +kernel), gt_in 29 (by decide +kernel) (by decide +kernel), gt_in 116 (by decide +kernel) (by decide +kernel), gt_in 1198 (by decide +kernel) (by decide +kernel), by decide +kernel⟩
theorem v_7_67 : Vw_ RX7 67 RX7 yX7_readOne cX7_readOne 5 (some .boolean) 3 := ⟨gt_in 1199 (by decide +kernel) (by decide +kernel), gt_in 1201 (by decide +kernel) (by decide +kernel), gt_in 30 (by decide +kernel) (by decide +kernel), gt_in 116 (by decide +kernel) (by decide +kernel), gt_in 1202 (by decide +kernel) (by decide +kernel), by decide +kernel⟩
theorem s_7_70 : Sw_ RX7 70 yX7_beginsOne cX7_beginsOne 1 (some .boolean) 1 := ⟨gt_in 1203 (by decide +kernel) (by decide +kernel), gt_in 1204 (by decide +kernel) (by decide +kernel), gt_in 116 (by decide +kernel) (by decide +kernel), gt_in 1205 (by decide +kernel) (by decide +kernel), by decide +kernel⟩
theorem v_7_73 : Vw_ RX7 73 RX10 yX10_fail cX10_fail 2 (some .boolean) 1 := ⟨gt_in 1206 (by decide +kernel) (by decide +kernel), gt_in 699 (by decide +kernel) (by decide +kernel), gt_in 700 (by decide +kernel) (by decide +kernel), gt_in 106 (by decide +kernel) (by decide +kernel), gt_in 701 (by decide +kernel) (by decide +kernel), by decide +kernel⟩
theorem v_7_60 : Vw_ RX7 60 RX10 yX10_advance cX10_advance 1 none 0 := ⟨gt_in 1207 (by decide +kernel) (by decide +kernel), gt_in 687 (by decide +kernel) (by decide +kernel), gt_in 688 (by decide +kernel) (by decide +kernel), gt_in 106 (by decide +kernel) (by decide +kernel), gt_in 689 (by decide +kernel) (by decide +kernel), by decide +kernel⟩
theorem v_7_50 : Vw_ RX7 50 RX10 yX10_take cX10_take 2 (some .boolean) 1 := ⟨gt_in 1208 (by decide +kernel) (by decide +kernel), gt_in 725 (by decide +kernel) (by decide +kernel), gt_in 726 (by decide +kernel) (by decide +kernel), gt_in 106 (by decide +kernel) (by decide +kernel), gt_in 727 (by decide +kernel) (by decide +kernel), by decide +kernel⟩
theorem v_7_63 : Vw_ RX7 63 RX7 yX7_addStep cX7_addStep 4 (some .boolean) 3 := ⟨gt_in 1209 (by decide +kernel) (by decide +kernel), gt_in 1211 (by decide +kernel) (by decide +kernel), gt_in 31 (by decide +kernel) (by decide +kernel), gt_in 116 (by decide +kernel) (by decide +kernel), gt_in 1212 (by decide +kernel) (by decide +kernel), by decide +kernel⟩
theorem v_7_76 : Vw_ RX7 76 RX7 yX7_readPlainOne cX7_readPlainOne 6 (some .boolean) 3 := ⟨gt_in 1213 (by decide +kernel) (by decide +kernel), gt_in 1215 (by decide +kernel) (by decide +kernel), gt_in 32 (by decide +kernel) (by decide +kernel), gt_in 116 (by decide +kernel) (by decide +kernel), gt_in 1216 (by decide +kernel) (by decide +kernel), by decide +kernel⟩
theorem v_7_83 : Vw_ RX7 83 RX8 yX8_personNamed cX8_personNamed 4 (some .int) 1 := ⟨gt_in 1217 (by decide +kernel) (by decide +kernel), gt_in 708 (by decide +kernel) (by decide +kernel), gt_in 709 (by decide +kernel) (by decide +kernel), gt_in 111 (by decide +kernel) (by decide +kernel), gt_in 710 (by decide +kernel) (by decide +kernel), by decide +kernel⟩
theorem v_7_89 : Vw_ RX7 89 RX10 yX10_takeName cX10_takeName 2 (some .int) 1 := ⟨gt_in 1218 (by decide +kernel) (by decide +kernel), gt_in 721 (by decide +kernel) (by decide +kernel), gt_in 722 (by decide +kernel) (by decide +kernel), gt_in 106 (by decide +kernel) (by decide +kernel), gt_in 723 (by decide +kernel) (by decide +kernel), by decide +kernel⟩
theorem v_7_93 : Vw_ RX7 93 RX8 yX8_dishNamed cX8_dishNamed 4 (some .int) 1 := ⟨gt_in 1219 (by decide +kernel) (by decide +kernel), gt_in 712 (by decide +kernel) (by decide +kernel), gt_in 713 (by decide +kernel) (by decide +kernel), gt_in 111 (by decide +kernel) (by decide +kernel), gt_in 714 (by decide +kernel) (by decide +kernel), by decide +kernel⟩
theorem v_7_96 : Vw_ RX7 96 RX10 yX10_takeNumber cX10_takeNumber 4 (some .int) 2 := ⟨gt_in 1220 (by decide +kernel) (by decide +kernel), gt_in 716 (by decide +kernel) (by decide +kernel), gt_in 717 (by decide +kernel) (by decide +kernel), gt_in 106 (by decide +kernel) (by decide +kernel), gt_in 718 (by decide +kernel) (by decide +kernel), by decide +kernel⟩
theorem v_11_365 : Vw_ RX11 365 RX7 yX7_become cX7_become 2 none 1 := ⟨gt_in 1221 (by decide +kernel) (by decide +kernel), gt_in 1222 (by decide +kernel) (by decide +kernel), gt_in 1223 (by decide +kernel) (by decide +kernel), gt_in 116 (by decide +kernel) (by decide +kernel), gt_in 1224 (by decide +kernel) (by decide +kernel), by decide +kernel⟩
theorem v_L_177 : Vw_ RL 177 RX11 yX11_said cX11_said 5 (some .int) 1 := ⟨gt_in 1226 (by decide +kernel) (by decide +kernel), gt_in 1227 (by decide +kernel) (by decide +kernel), gt_in 1228 (by decide +kernel) (by decide +kernel), gt_in 105 (by decide +kernel) (by decide +kernel), gt_in 1229 (by decide +kernel) (by decide +kernel), by decide +kernel⟩
theorem v_11_371 : Vw_ RX11 371 RX7 yX7_personsIn cX7_personsIn 6 (some .int) 1 := ⟨gt_in 1230 (by decide +kernel) (by decide +kernel), gt_in 1231 (by decide +kernel) (by decide +kernel), gt_in 1232 (by decide +kernel) (by decide +kernel), gt_in 116 (by decide +kernel) (by decide +kernel), gt_in 1233 (by decide +kernel) (by decide +kernel), by decide +kernel⟩
theorem v_7_106 : Vw_ RX7 106 RX8 yX8_everybody cX8_everybody 1 (some .int) 0 := ⟨gt_in 1234 (by decide +kernel) (by decide +kernel), gt_in 794 (by decide +kernel) (by decide +kernel), gt_in 795 (by decide +kernel) (by decide +kernel), gt_in 111 (by decide +kernel) (by decide +kernel), gt_in 796 (by decide +kernel) (by decide +kernel), by decide +kernel⟩
theorem v_7_110 : Vw_ RX7 110 RX7 yX7_thoseOf cX7_thoseOf 5 (some .int) 2 := ⟨gt_in 1235 (by decide +kernel) (by decide +kernel), gt_in 1237 (by decide +kernel) (by decide +kernel), gt_in 33 (by decide +kernel) (by decide +kernel), gt_in 116 (by decide +kernel) (by decide +kernel), gt_in 1238 (by decide +kernel) (by decide +kernel), by decide +kernel⟩
theorem v_7_117 : Vw_ RX7 117 RX7 yX7_holds cX7_holds 4 (some .boolean) 3 := ⟨gt_in 1239 (by decide +kernel) (by decide +kernel), gt_in 1241 (by decide +kernel) (by decide +kernel), gt_in 34 (by decide +kernel) (by decide +kernel), gt_in 116 (by decide +kernel) (by decide +kernel), gt_in 1242 (by decide +kernel) (by decide +kernel), by decide +kernel⟩
theorem v_7_121 : Vw_ RX7 121 RX1 yX1_lives cX1_lives 2 (some .boolean) 1 := ⟨gt_in 1243 (by decide +kernel) (by decide +kernel), gt_in 832 (by decide +kernel) (by decide +kernel), gt_in 833 (by decide +kernel) (by decide +kernel), gt_in 112 (by decide +kernel) (by decide +kernel), gt_in 834 (by decide +kernel) (by decide +kernel), by decide +kernel⟩
theorem v_7_133 : Vw_ RX7 133 RX1 yX1_onPlate cX1_onPlate 3 (some .int) 2 := ⟨gt_in 1244 (by decide +kernel) (by decide +kernel), gt_in 737 (by decide +kernel) (by decide +kernel), gt_in 738 (by decide +kernel) (by decide +kernel), gt_in 112 (by decide +kernel) (by decide +kernel), gt_in 739 (by decide +kernel) (by decide +kernel), by decide +kernel⟩
theorem v_7_139 : Vw_ RX7 139 RX7 yX7_compares cX7_compares 3 (some .boolean) 2 := ⟨gt_in 1245 (by decide +kernel) (by decide +kernel), gt_in 1247 (by decide +kernel) (by decide +kernel), gt_in 35 (by decide +kernel) (by decide +kernel), gt_in 116 (by decide +kernel) (by decide +kernel), gt_in 1248 (by decide +kernel) (by decide +kernel), by decide +kernel⟩
theorem s_11_374 : Sw_ RX11 374 yJ6_bitCount_0f7a4 cJ6_bitCount_0f7a4 1 (some .int) 1 := ⟨gt_in 1249 (by decide +kernel) (by decide +kernel), gt_in 961 (by decide +kernel) (by decide +kernel), gt_in 128 (by decide +kernel) (by decide +kernel), gt_in 962 (by decide +kernel) (by decide +kernel), by decide +kernel⟩
theorem v_L_181 : Vw_ RL 181 RX11 yX11_image cX11_image 2 (some .boolean) 1 := ⟨gt_in 1250 (by decide +kernel) (by decide +kernel), gt_in 1251 (by decide +kernel) (by decide +kernel), gt_in 1252 (by decide +kernel) (by decide +kernel), gt_in 105 (by decide +kernel) (by decide +kernel), gt_in 1253 (by decide +kernel) (by decide +kernel), by decide +kernel⟩
theorem v_11_379 : Vw_ RX11 379 RX3 yX3_keep cX3_keep 4 none 3 := ⟨gt_in 1254 (by decide +kernel) (by decide +kernel), gt_in 1255 (by decide +kernel) (by decide +kernel), gt_in 1256 (by decide +kernel) (by decide +kernel), gt_in 120 (by decide +kernel) (by decide +kernel), gt_in 1257 (by decide +kernel) (by decide +kernel), by decide +kernel⟩
theorem v_3_36 : Vw_ RX3 36 RX8 yX8_become cX8_become 2 none 1 := ⟨gt_in 1258 (by decide +kernel) (by decide +kernel), gt_in 753 (by decide +kernel) (by decide +kernel), gt_in 754 (by decide +kernel) (by decide +kernel), gt_in 111 (by decide +kernel) (by decide +kernel), gt_in 755 (by decide +kernel) (by decide +kernel), by decide +kernel⟩
theorem v_3_39 : Vw_ RX3 39 RX1 yX1_become cX1_become 2 none 1 := ⟨gt_in 1259 (by decide +kernel) (by decide +kernel), gt_in 760 (by decide +kernel) (by decide +kernel), gt_in 761 (by decide +kernel) (by decide +kernel), gt_in 112 (by decide +kernel) (by decide +kernel), gt_in 762 (by decide +kernel) (by decide +kernel), by decide +kernel⟩
theorem v_3_42 : Vw_ RX3 42 RX7 yX7_become cX7_become 2 none 1 := ⟨gt_in 1260 (by decide +kernel) (by decide +kernel), gt_in 1222 (by decide +kernel) (by decide +kernel), gt_in 1223 (by decide +kernel) (by decide +kernel), gt_in 116 (by decide +kernel) (by decide +kernel), gt_in 1224 (by decide +kernel) (by decide +kernel), by decide +kernel⟩
theorem v_L_185 : Vw_ RL 185 RX11 yX11_restore cX11_restore 2 (some .boolean) 1 := ⟨gt_in 1261 (by decide +kernel) (by decide +kernel), gt_in 1262 (by decide +kernel) (by decide +kernel), gt_in 1263 (by decide +kernel) (by decide +kernel), gt_in 105 (by decide +kernel) (by decide +kernel), gt_in 1264 (by decide +kernel) (by decide +kernel), by decide +kernel⟩
theorem v_L_7 : Vw_ RL 7 RX11 yX11_person cX11_person 3 (some .int) 2 := ⟨gt_in 1269 (by decide +kernel) (by decide +kernel), gt_in 1270 (by decide +kernel) (by decide +kernel), gt_in 1271 (by decide +kernel) (by decide +kernel), gt_in 105 (by decide +kernel) (by decide +kernel), gt_in 1272 (by decide +kernel) (by decide +kernel), by decide +kernel⟩
theorem v_11_169 : Vw_ RX11 169 RX8 yX8_childrenOf cX8_childrenOf 4 (some .int) 1 := ⟨gt_in 1338 (by decide +kernel) (by decide +kernel), gt_in 883 (by decide +kernel) (by decide +kernel), gt_in 884 (by decide +kernel) (by decide +kernel), gt_in 111 (by decide +kernel) (by decide +kernel), gt_in 885 (by decide +kernel) (by decide +kernel), by decide +kernel⟩
theorem v_L_44 : Vw_ RL 44 RX12 yX12_thrown cX12_thrown 1 (some .int) 0 := ⟨gt_in 1501 (by decide +kernel) (by decide +kernel), gt_in 1502 (by decide +kernel) (by decide +kernel), gt_in 1503 (by decide +kernel) (by decide +kernel), gt_in 121 (by decide +kernel) (by decide +kernel), gt_in 1504 (by decide +kernel) (by decide +kernel), by decide +kernel⟩
theorem v_L_23 : Vw_ RL 23 RX12 yX12_feed cX12_feed 6 (some .int) 5 := ⟨gt_in 1505 (by decide +kernel) (by decide +kernel), gt_in 1506 (by decide +kernel) (by decide +kernel), gt_in 1507 (by decide +kernel) (by decide +kernel), gt_in 121 (by decide +kernel) (by decide +kernel), gt_in 1508 (by decide +kernel) (by decide +kernel), by decide +kernel⟩
theorem v_12_88 : Vw_ RX12 88 RX12 yX12_come cX12_come 3 none 1 := ⟨gt_in 1509 (by decide +kernel) (by decide +kernel), gt_in 1511 (by decide +kernel) (by decide +kernel), gt_in 37 (by decide +kernel) (by decide +kernel), gt_in 121 (by decide +kernel) (by decide +kernel), gt_in 1512 (by decide +kernel) (by decide +kernel), by decide +kernel⟩
theorem v_L_28 : Vw_ RL 28 RX12 yX12_end cX12_end 2 (some .boolean) 1 := ⟨gt_in 1513 (by decide +kernel) (by decide +kernel), gt_in 1514 (by decide +kernel) (by decide +kernel), gt_in 1515 (by decide +kernel) (by decide +kernel), gt_in 121 (by decide +kernel) (by decide +kernel), gt_in 1516 (by decide +kernel) (by decide +kernel), by decide +kernel⟩
theorem v_L_33 : Vw_ RL 33 RX12 yX12_table cX12_table 3 (some .int) 0 := ⟨gt_in 1517 (by decide +kernel) (by decide +kernel), gt_in 1518 (by decide +kernel) (by decide +kernel), gt_in 1519 (by decide +kernel) (by decide +kernel), gt_in 121 (by decide +kernel) (by decide +kernel), gt_in 1520 (by decide +kernel) (by decide +kernel), by decide +kernel⟩
theorem v_12_216 : Vw_ RX12 216 RX12 yX12_begin cX12_begin 2 none 1 := ⟨gt_in 1521 (by decide +kernel) (by decide +kernel), gt_in 1523 (by decide +kernel) (by decide +kernel), gt_in 38 (by decide +kernel) (by decide +kernel), gt_in 121 (by decide +kernel) (by decide +kernel), gt_in 1524 (by decide +kernel) (by decide +kernel), by decide +kernel⟩
theorem v_12_162 : Vw_ RX12 162 RX12 yX12_take cX12_take 2 (some .int) 0 := ⟨gt_in 1525 (by decide +kernel) (by decide +kernel), gt_in 1527 (by decide +kernel) (by decide +kernel), gt_in 39 (by decide +kernel) (by decide +kernel), gt_in 121 (by decide +kernel) (by decide +kernel), gt_in 1528 (by decide +kernel) (by decide +kernel), by decide +kernel⟩
theorem v_12_156 : Vw_ RX12 156 RX12 yX12_go cX12_go 5 none 0 := ⟨gt_in 1529 (by decide +kernel) (by decide +kernel), gt_in 1531 (by decide +kernel) (by decide +kernel), gt_in 40 (by decide +kernel) (by decide +kernel), gt_in 121 (by decide +kernel) (by decide +kernel), gt_in 1532 (by decide +kernel) (by decide +kernel), by decide +kernel⟩
theorem s_12_107 : Sw_ RX12 107 yX12_isLetter cX12_isLetter 1 (some .boolean) 1 := ⟨gt_in 1533 (by decide +kernel) (by decide +kernel), gt_in 1534 (by decide +kernel) (by decide +kernel), gt_in 121 (by decide +kernel) (by decide +kernel), gt_in 1535 (by decide +kernel) (by decide +kernel), by decide +kernel⟩
theorem s_12_111 : Sw_ RX12 111 yX12_isDigit cX12_isDigit 1 (some .boolean) 1 := ⟨gt_in 1536 (by decide +kernel) (by decide +kernel), gt_in 1537 (by decide +kernel) (by decide +kernel), gt_in 121 (by decide +kernel) (by decide +kernel), gt_in 1538 (by decide +kernel) (by decide +kernel), by decide +kernel⟩
theorem v_12_124 : Vw_ RX12 124 RX12 yX12_tapeAt cX12_tapeAt 2 (some .int) 1 := ⟨gt_in 1539 (by decide +kernel) (by decide +kernel), gt_in 1541 (by decide +kernel) (by decide +kernel), gt_in 41 (by decide +kernel) (by decide +kernel), gt_in 121 (by decide +kernel) (by decide +kernel), gt_in 1542 (by decide +kernel) (by decide +kernel), by decide +kernel⟩
theorem v_12_219 : Vw_ RX12 219 RX12 yX12_readLine cX12_readLine 1 (some .boolean) 0 := ⟨gt_in 1545 (by decide +kernel) (by decide +kernel), gt_in 1547 (by decide +kernel) (by decide +kernel), gt_in 42 (by decide +kernel) (by decide +kernel), gt_in 121 (by decide +kernel) (by decide +kernel), gt_in 1548 (by decide +kernel) (by decide +kernel), by decide +kernel⟩
theorem v_12_191 : Vw_ RX12 191 RX12 yX12_isWord cX12_isWord 2 (some .boolean) 1 := ⟨gt_in 1549 (by decide +kernel) (by decide +kernel), gt_in 1551 (by decide +kernel) (by decide +kernel), gt_in 43 (by decide +kernel) (by decide +kernel), gt_in 121 (by decide +kernel) (by decide +kernel), gt_in 1552 (by decide +kernel) (by decide +kernel), by decide +kernel⟩
theorem s_12_136 : Sw_ RX12 136 yX12_wordOf cX12_wordOf 1 (some .long) 1 := ⟨gt_in 1553 (by decide +kernel) (by decide +kernel), gt_in 1554 (by decide +kernel) (by decide +kernel), gt_in 121 (by decide +kernel) (by decide +kernel), gt_in 1555 (by decide +kernel) (by decide +kernel), by decide +kernel⟩
theorem s_12_132 : Sw_ RX12 132 yX12_spelt cX12_spelt 9 (some .long) 7 := ⟨gt_in 1556 (by decide +kernel) (by decide +kernel), gt_in 1557 (by decide +kernel) (by decide +kernel), gt_in 121 (by decide +kernel) (by decide +kernel), gt_in 1558 (by decide +kernel) (by decide +kernel), by decide +kernel⟩
theorem v_12_201 : Vw_ RX12 201 RX12 yX12_readPerson cX12_readPerson 2 (some .boolean) 0 := ⟨gt_in 1559 (by decide +kernel) (by decide +kernel), gt_in 1561 (by decide +kernel) (by decide +kernel), gt_in 44 (by decide +kernel) (by decide +kernel), gt_in 121 (by decide +kernel) (by decide +kernel), gt_in 1562 (by decide +kernel) (by decide +kernel), by decide +kernel⟩
theorem v_12_178 : Vw_ RX12 178 RX12 yX12_readFirst cX12_readFirst 3 (some .boolean) 2 := ⟨gt_in 1563 (by decide +kernel) (by decide +kernel), gt_in 1565 (by decide +kernel) (by decide +kernel), gt_in 45 (by decide +kernel) (by decide +kernel), gt_in 121 (by decide +kernel) (by decide +kernel), gt_in 1566 (by decide +kernel) (by decide +kernel), by decide +kernel⟩
theorem v_12_146 : Vw_ RX12 146 RX12 yX12_bad cX12_bad 2 (some .boolean) 1 := ⟨gt_in 1567 (by decide +kernel) (by decide +kernel), gt_in 1569 (by decide +kernel) (by decide +kernel), gt_in 46 (by decide +kernel) (by decide +kernel), gt_in 121 (by decide +kernel) (by decide +kernel), gt_in 1570 (by decide +kernel) (by decide +kernel), by decide +kernel⟩
theorem v_12_181 : Vw_ RX12 181 RX12 yX12_readNew cX12_readNew 2 (some .boolean) 1 := ⟨gt_in 1571 (by decide +kernel) (by decide +kernel), gt_in 1573 (by decide +kernel) (by decide +kernel), gt_in 47 (by decide +kernel) (by decide +kernel), gt_in 121 (by decide +kernel) (by decide +kernel), gt_in 1574 (by decide +kernel) (by decide +kernel), by decide +kernel⟩
theorem v_12_166 : Vw_ RX12 166 RX12 yX12_isName cX12_isName 2 (some .boolean) 0 := ⟨gt_in 1575 (by decide +kernel) (by decide +kernel), gt_in 1577 (by decide +kernel) (by decide +kernel), gt_in 48 (by decide +kernel) (by decide +kernel), gt_in 121 (by decide +kernel) (by decide +kernel), gt_in 1578 (by decide +kernel) (by decide +kernel), by decide +kernel⟩
theorem s_12_170 : Sw_ RX12 170 yX12_findIn cX12_findIn 6 (some .int) 4 := ⟨gt_in 1579 (by decide +kernel) (by decide +kernel), gt_in 1580 (by decide +kernel) (by decide +kernel), gt_in 121 (by decide +kernel) (by decide +kernel), gt_in 1581 (by decide +kernel) (by decide +kernel), by decide +kernel⟩
theorem v_12_184 : Vw_ RX12 184 RX12 yX12_readNumber cX12_readNumber 3 (some .boolean) 2 := ⟨gt_in 1582 (by decide +kernel) (by decide +kernel), gt_in 1584 (by decide +kernel) (by decide +kernel), gt_in 49 (by decide +kernel) (by decide +kernel), gt_in 121 (by decide +kernel) (by decide +kernel), gt_in 1585 (by decide +kernel) (by decide +kernel), by decide +kernel⟩
theorem s_12_149 : Sw_ RX12 149 yX12_isIn cX12_isIn 3 (some .boolean) 3 := ⟨gt_in 1586 (by decide +kernel) (by decide +kernel), gt_in 1587 (by decide +kernel) (by decide +kernel), gt_in 121 (by decide +kernel) (by decide +kernel), gt_in 1588 (by decide +kernel) (by decide +kernel), by decide +kernel⟩
theorem v_12_187 : Vw_ RX12 187 RX12 yX12_put cX12_put 3 (some .boolean) 2 := ⟨gt_in 1589 (by decide +kernel) (by decide +kernel), gt_in 1591 (by decide +kernel) (by decide +kernel), gt_in 50 (by decide +kernel) (by decide +kernel), gt_in 121 (by decide +kernel) (by decide +kernel), gt_in 1592 (by decide +kernel) (by decide +kernel), by decide +kernel⟩
theorem v_12_194 : Vw_ RX12 194 RX12 yX12_readOne cX12_readOne 3 (some .boolean) 2 := ⟨gt_in 1593 (by decide +kernel) (by decide +kernel), gt_in 1595 (by decide +kernel) (by decide +kernel), gt_in 51 (by decide +kernel) (by decide +kernel), gt_in 121 (by decide +kernel) (by decide +kernel), gt_in 1596 (by decide +kernel) (by decide +kernel), by decide +kernel⟩
theorem v_12_174 : Vw_ RX12 174 RX12 yX12_isOne cX12_isOne 3 (some .boolean) 2 := ⟨gt_in 1597 (by decide +kernel) (by decide +kernel), gt_in 1599 (by decide +kernel) (by decide +kernel), gt_in 52 (by decide +kernel) (by decide +kernel), gt_in 121 (by decide +kernel) (by decide +kernel), gt_in 1600 (by decide +kernel) (by decide +kernel), by decide +kernel⟩
theorem v_12_204 : Vw_ RX12 204 RX12 yX12_readDish cX12_readDish 2 (some .boolean) 0 := ⟨gt_in 1601 (by decide +kernel) (by decide +kernel), gt_in 1603 (by decide +kernel) (by decide +kernel), gt_in 53 (by decide +kernel) (by decide +kernel), gt_in 121 (by decide +kernel) (by decide +kernel), gt_in 1604 (by decide +kernel) (by decide +kernel), by decide +kernel⟩
theorem v_12_207 : Vw_ RX12 207 RX12 yX12_readPlate cX12_readPlate 2 (some .boolean) 0 := ⟨gt_in 1605 (by decide +kernel) (by decide +kernel), gt_in 1607 (by decide +kernel) (by decide +kernel), gt_in 54 (by decide +kernel) (by decide +kernel), gt_in 121 (by decide +kernel) (by decide +kernel), gt_in 1608 (by decide +kernel) (by decide +kernel), by decide +kernel⟩
theorem v_12_210 : Vw_ RX12 210 RX12 yX12_readLaw cX12_readLaw 2 (some .boolean) 0 := ⟨gt_in 1609 (by decide +kernel) (by decide +kernel), gt_in 1611 (by decide +kernel) (by decide +kernel), gt_in 55 (by decide +kernel) (by decide +kernel), gt_in 121 (by decide +kernel) (by decide +kernel), gt_in 1612 (by decide +kernel) (by decide +kernel), by decide +kernel⟩
theorem v_12_222 : Vw_ RX12 222 RX12 yX12_readEnd cX12_readEnd 1 (some .boolean) 0 := ⟨gt_in 1613 (by decide +kernel) (by decide +kernel), gt_in 1615 (by decide +kernel) (by decide +kernel), gt_in 56 (by decide +kernel) (by decide +kernel), gt_in 121 (by decide +kernel) (by decide +kernel), gt_in 1616 (by decide +kernel) (by decide +kernel), by decide +kernel⟩
theorem v_12_159 : Vw_ RX12 159 RX12 yX12_isSign cX12_isSign 2 (some .boolean) 1 := ⟨gt_in 1617 (by decide +kernel) (by decide +kernel), gt_in 1619 (by decide +kernel) (by decide +kernel), gt_in 57 (by decide +kernel) (by decide +kernel), gt_in 121 (by decide +kernel) (by decide +kernel), gt_in 1620 (by decide +kernel) (by decide +kernel), by decide +kernel⟩
theorem v_12_225 : Vw_ RX12 225 RX12 yX12_startSo cX12_startSo 2 none 0 := ⟨gt_in 1621 (by decide +kernel) (by decide +kernel), gt_in 1623 (by decide +kernel) (by decide +kernel), gt_in 58 (by decide +kernel) (by decide +kernel), gt_in 121 (by decide +kernel) (by decide +kernel), gt_in 1624 (by decide +kernel) (by decide +kernel), by decide +kernel⟩
theorem v_L_37 : Vw_ RL 37 RX12 yX12_fault cX12_fault 1 (some .int) 0 := ⟨gt_in 1625 (by decide +kernel) (by decide +kernel), gt_in 1626 (by decide +kernel) (by decide +kernel), gt_in 1627 (by decide +kernel) (by decide +kernel), gt_in 121 (by decide +kernel) (by decide +kernel), gt_in 1628 (by decide +kernel) (by decide +kernel), by decide +kernel⟩
theorem v_L_43 : Vw_ RL 43 RX12 yX12_person cX12_person 5 (some .int) 2 := ⟨gt_in 1629 (by decide +kernel) (by decide +kernel), gt_in 1630 (by decide +kernel) (by decide +kernel), gt_in 1631 (by decide +kernel) (by decide +kernel), gt_in 121 (by decide +kernel) (by decide +kernel), gt_in 1632 (by decide +kernel) (by decide +kernel), by decide +kernel⟩
theorem v_12_238 : Vw_ RX12 238 RX12 yX12_isPerson cX12_isPerson 2 (some .boolean) 1 := ⟨gt_in 1633 (by decide +kernel) (by decide +kernel), gt_in 1635 (by decide +kernel) (by decide +kernel), gt_in 59 (by decide +kernel) (by decide +kernel), gt_in 121 (by decide +kernel) (by decide +kernel), gt_in 1636 (by decide +kernel) (by decide +kernel), by decide +kernel⟩
theorem v_12_241 : Vw_ RX12 241 RX12 yX12_refuse cX12_refuse 1 (some .int) 0 := ⟨gt_in 1637 (by decide +kernel) (by decide +kernel), gt_in 1639 (by decide +kernel) (by decide +kernel), gt_in 60 (by decide +kernel) (by decide +kernel), gt_in 121 (by decide +kernel) (by decide +kernel), gt_in 1640 (by decide +kernel) (by decide +kernel), by decide +kernel⟩
theorem v_12_244 : Vw_ RX12 244 RX12 yX12_isDead cX12_isDead 2 (some .boolean) 1 := ⟨gt_in 1641 (by decide +kernel) (by decide +kernel), gt_in 1643 (by decide +kernel) (by decide +kernel), gt_in 61 (by decide +kernel) (by decide +kernel), gt_in 121 (by decide +kernel) (by decide +kernel), gt_in 1644 (by decide +kernel) (by decide +kernel), by decide +kernel⟩
theorem s_12_231 : Sw_ RX12 231 yX12_has cX12_has 2 (some .boolean) 2 := ⟨gt_in 1645 (by decide +kernel) (by decide +kernel), gt_in 1646 (by decide +kernel) (by decide +kernel), gt_in 121 (by decide +kernel) (by decide +kernel), gt_in 1647 (by decide +kernel) (by decide +kernel), by decide +kernel⟩
theorem v_12_247 : Vw_ RX12 247 RX12 yX12_plateOf cX12_plateOf 4 (some .int) 1 := ⟨gt_in 1648 (by decide +kernel) (by decide +kernel), gt_in 1650 (by decide +kernel) (by decide +kernel), gt_in 62 (by decide +kernel) (by decide +kernel), gt_in 121 (by decide +kernel) (by decide +kernel), gt_in 1651 (by decide +kernel) (by decide +kernel), by decide +kernel⟩
theorem v_12_234 : Vw_ RX12 234 RX12 yX12_onPlate cX12_onPlate 3 (some .int) 2 := ⟨gt_in 1652 (by decide +kernel) (by decide +kernel), gt_in 1654 (by decide +kernel) (by decide +kernel), gt_in 63 (by decide +kernel) (by decide +kernel), gt_in 121 (by decide +kernel) (by decide +kernel), gt_in 1655 (by decide +kernel) (by decide +kernel), by decide +kernel⟩
theorem v_L_50 : Vw_ RL 50 RX12 yX12_plate cX12_plate 3 (some .int) 2 := ⟨gt_in 1656 (by decide +kernel) (by decide +kernel), gt_in 1657 (by decide +kernel) (by decide +kernel), gt_in 1658 (by decide +kernel) (by decide +kernel), gt_in 121 (by decide +kernel) (by decide +kernel), gt_in 1659 (by decide +kernel) (by decide +kernel), by decide +kernel⟩
theorem v_12_250 : Vw_ RX12 250 RX12 yX12_isDish cX12_isDish 2 (some .boolean) 1 := ⟨gt_in 1660 (by decide +kernel) (by decide +kernel), gt_in 1662 (by decide +kernel) (by decide +kernel), gt_in 64 (by decide +kernel) (by decide +kernel), gt_in 121 (by decide +kernel) (by decide +kernel), gt_in 1663 (by decide +kernel) (by decide +kernel), by decide +kernel⟩
theorem v_L_54 : Vw_ RL 54 RX12 yX12_dish cX12_dish 5 (some .int) 2 := ⟨gt_in 1664 (by decide +kernel) (by decide +kernel), gt_in 1665 (by decide +kernel) (by decide +kernel), gt_in 1666 (by decide +kernel) (by decide +kernel), gt_in 121 (by decide +kernel) (by decide +kernel), gt_in 1667 (by decide +kernel) (by decide +kernel), by decide +kernel⟩
theorem v_L_59 : Vw_ RL 59 RX12 yX12_now cX12_now 2 (some .int) 1 := ⟨gt_in 1668 (by decide +kernel) (by decide +kernel), gt_in 1669 (by decide +kernel) (by decide +kernel), gt_in 1670 (by decide +kernel) (by decide +kernel), gt_in 121 (by decide +kernel) (by decide +kernel), gt_in 1671 (by decide +kernel) (by decide +kernel), by decide +kernel⟩
theorem v_12_253 : Vw_ RX12 253 RX12 yX12_sumOf cX12_sumOf 4 (some .int) 1 := ⟨gt_in 1672 (by decide +kernel) (by decide +kernel), gt_in 1674 (by decide +kernel) (by decide +kernel), gt_in 65 (by decide +kernel) (by decide +kernel), gt_in 121 (by decide +kernel) (by decide +kernel), gt_in 1675 (by decide +kernel) (by decide +kernel), by decide +kernel⟩
theorem v_L_96 : Vw_ RL 96 RX12 yX12_heir cX12_heir 2 (some .int) 1 := ⟨gt_in 1676 (by decide +kernel) (by decide +kernel), gt_in 1677 (by decide +kernel) (by decide +kernel), gt_in 1678 (by decide +kernel) (by decide +kernel), gt_in 121 (by decide +kernel) (by decide +kernel), gt_in 1679 (by decide +kernel) (by decide +kernel), by decide +kernel⟩
theorem v_12_259 : Vw_ RX12 259 RX12 yX12_outs cX12_outs 1 (some .int) 0 := ⟨gt_in 1680 (by decide +kernel) (by decide +kernel), gt_in 1682 (by decide +kernel) (by decide +kernel), gt_in 66 (by decide +kernel) (by decide +kernel), gt_in 121 (by decide +kernel) (by decide +kernel), gt_in 1683 (by decide +kernel) (by decide +kernel), by decide +kernel⟩
theorem v_12_262 : Vw_ RX12 262 RX12 yX12_heirBy cX12_heirBy 6 (some .int) 2 := ⟨gt_in 1684 (by decide +kernel) (by decide +kernel), gt_in 1686 (by decide +kernel) (by decide +kernel), gt_in 67 (by decide +kernel) (by decide +kernel), gt_in 121 (by decide +kernel) (by decide +kernel), gt_in 1687 (by decide +kernel) (by decide +kernel), by decide +kernel⟩
theorem v_12_256 : Vw_ RX12 256 RX12 yX12_nextTo cX12_nextTo 5 (some .int) 2 := ⟨gt_in 1688 (by decide +kernel) (by decide +kernel), gt_in 1690 (by decide +kernel) (by decide +kernel), gt_in 68 (by decide +kernel) (by decide +kernel), gt_in 121 (by decide +kernel) (by decide +kernel), gt_in 1691 (by decide +kernel) (by decide +kernel), by decide +kernel⟩
theorem v_L_100 : Vw_ RL 100 RX12 yX12_line cX12_line 6 (some .int) 2 := ⟨gt_in 1692 (by decide +kernel) (by decide +kernel), gt_in 1693 (by decide +kernel) (by decide +kernel), gt_in 1694 (by decide +kernel) (by decide +kernel), gt_in 121 (by decide +kernel) (by decide +kernel), gt_in 1695 (by decide +kernel) (by decide +kernel), by decide +kernel⟩
theorem v_L_64 : Vw_ RL 64 RX12 yX12_eat cX12_eat 4 (some .int) 3 := ⟨gt_in 1696 (by decide +kernel) (by decide +kernel), gt_in 1697 (by decide +kernel) (by decide +kernel), gt_in 1698 (by decide +kernel) (by decide +kernel), gt_in 121 (by decide +kernel) (by decide +kernel), gt_in 1699 (by decide +kernel) (by decide +kernel), by decide +kernel⟩
theorem v_12_289 : Vw_ RX12 289 RX12 yX12_act cX12_act 6 (some .int) 4 := ⟨gt_in 1700 (by decide +kernel) (by decide +kernel), gt_in 1702 (by decide +kernel) (by decide +kernel), gt_in 69 (by decide +kernel) (by decide +kernel), gt_in 121 (by decide +kernel) (by decide +kernel), gt_in 1703 (by decide +kernel) (by decide +kernel), by decide +kernel⟩
theorem v_12_278 : Vw_ RX12 278 RX12 yX12_why cX12_why 5 (some .int) 4 := ⟨gt_in 1704 (by decide +kernel) (by decide +kernel), gt_in 1706 (by decide +kernel) (by decide +kernel), gt_in 70 (by decide +kernel) (by decide +kernel), gt_in 121 (by decide +kernel) (by decide +kernel), gt_in 1707 (by decide +kernel) (by decide +kernel), by decide +kernel⟩
theorem v_12_268 : Vw_ RX12 268 RX12 yX12_wantsYet cX12_wantsYet 2 (some .int) 1 := ⟨gt_in 1708 (by decide +kernel) (by decide +kernel), gt_in 1710 (by decide +kernel) (by decide +kernel), gt_in 71 (by decide +kernel) (by decide +kernel), gt_in 121 (by decide +kernel) (by decide +kernel), gt_in 1711 (by decide +kernel) (by decide +kernel), by decide +kernel⟩
theorem v_12_282 : Vw_ RX12 282 RX12 yX12_snap cX12_snap 2 none 0 := ⟨gt_in 1712 (by decide +kernel) (by decide +kernel), gt_in 1714 (by decide +kernel) (by decide +kernel), gt_in 72 (by decide +kernel) (by decide +kernel), gt_in 121 (by decide +kernel) (by decide +kernel), gt_in 1715 (by decide +kernel) (by decide +kernel), by decide +kernel⟩
theorem v_12_285 : Vw_ RX12 285 RX12 yX12_live cX12_live 5 none 4 := ⟨gt_in 1716 (by decide +kernel) (by decide +kernel), gt_in 1718 (by decide +kernel) (by decide +kernel), gt_in 73 (by decide +kernel) (by decide +kernel), gt_in 121 (by decide +kernel) (by decide +kernel), gt_in 1719 (by decide +kernel) (by decide +kernel), by decide +kernel⟩
theorem v_12_271 : Vw_ RX12 271 RX12 yX12_doEat cX12_doEat 4 none 3 := ⟨gt_in 1720 (by decide +kernel) (by decide +kernel), gt_in 1722 (by decide +kernel) (by decide +kernel), gt_in 74 (by decide +kernel) (by decide +kernel), gt_in 121 (by decide +kernel) (by decide +kernel), gt_in 1723 (by decide +kernel) (by decide +kernel), by decide +kernel⟩
theorem v_12_275 : Vw_ RX12 275 RX12 yX12_pass cX12_pass 7 none 1 := ⟨gt_in 1724 (by decide +kernel) (by decide +kernel), gt_in 1726 (by decide +kernel) (by decide +kernel), gt_in 75 (by decide +kernel) (by decide +kernel), gt_in 121 (by decide +kernel) (by decide +kernel), gt_in 1727 (by decide +kernel) (by decide +kernel), by decide +kernel⟩
theorem s_12_265 : Sw_ RX12 265 yX12_least cX12_least 2 (some .int) 2 := ⟨gt_in 1728 (by decide +kernel) (by decide +kernel), gt_in 1729 (by decide +kernel) (by decide +kernel), gt_in 121 (by decide +kernel) (by decide +kernel), gt_in 1730 (by decide +kernel) (by decide +kernel), by decide +kernel⟩
theorem v_L_68 : Vw_ RL 68 RX12 yX12_serve cX12_serve 4 (some .int) 3 := ⟨gt_in 1731 (by decide +kernel) (by decide +kernel), gt_in 1732 (by decide +kernel) (by decide +kernel), gt_in 1733 (by decide +kernel) (by decide +kernel), gt_in 121 (by decide +kernel) (by decide +kernel), gt_in 1734 (by decide +kernel) (by decide +kernel), by decide +kernel⟩
theorem v_L_72 : Vw_ RL 72 RX12 yX12_rise cX12_rise 2 (some .int) 1 := ⟨gt_in 1735 (by decide +kernel) (by decide +kernel), gt_in 1736 (by decide +kernel) (by decide +kernel), gt_in 1737 (by decide +kernel) (by decide +kernel), gt_in 121 (by decide +kernel) (by decide +kernel), gt_in 1738 (by decide +kernel) (by decide +kernel), by decide +kernel⟩
theorem v_L_76 : Vw_ RL 76 RX12 yX12_refuse_ cX12_refuse_ 2 (some .int) 1 := ⟨gt_in 1739 (by decide +kernel) (by decide +kernel), gt_in 1740 (by decide +kernel) (by decide +kernel), gt_in 1741 (by decide +kernel) (by decide +kernel), gt_in 121 (by decide +kernel) (by decide +kernel), gt_in 1742 (by decide +kernel) (by decide +kernel), by decide +kernel⟩
theorem v_L_80 : Vw_ RL 80 RX12 yX12_accept cX12_accept 2 (some .int) 1 := ⟨gt_in 1743 (by decide +kernel) (by decide +kernel), gt_in 1744 (by decide +kernel) (by decide +kernel), gt_in 1745 (by decide +kernel) (by decide +kernel), gt_in 121 (by decide +kernel) (by decide +kernel), gt_in 1746 (by decide +kernel) (by decide +kernel), by decide +kernel⟩
theorem v_L_84 : Vw_ RL 84 RX12 yX12_die cX12_die 2 (some .int) 1 := ⟨gt_in 1747 (by decide +kernel) (by decide +kernel), gt_in 1748 (by decide +kernel) (by decide +kernel), gt_in 1749 (by decide +kernel) (by decide +kernel), gt_in 121 (by decide +kernel) (by decide +kernel), gt_in 1750 (by decide +kernel) (by decide +kernel), by decide +kernel⟩
theorem v_L_92 : Vw_ RL 92 RX12 yX12_undo cX12_undo 2 (some .int) 0 := ⟨gt_in 1751 (by decide +kernel) (by decide +kernel), gt_in 1752 (by decide +kernel) (by decide +kernel), gt_in 1753 (by decide +kernel) (by decide +kernel), gt_in 121 (by decide +kernel) (by decide +kernel), gt_in 1754 (by decide +kernel) (by decide +kernel), by decide +kernel⟩
theorem v_L_88 : Vw_ RL 88 RX12 yX12_meals cX12_meals 2 (some .int) 1 := ⟨gt_in 1755 (by decide +kernel) (by decide +kernel), gt_in 1756 (by decide +kernel) (by decide +kernel), gt_in 1757 (by decide +kernel) (by decide +kernel), gt_in 121 (by decide +kernel) (by decide +kernel), gt_in 1758 (by decide +kernel) (by decide +kernel), by decide +kernel⟩
theorem v_12_295 : Vw_ RX12 295 RX12 yX12_passMeals cX12_passMeals 4 (some .int) 1 := ⟨gt_in 1759 (by decide +kernel) (by decide +kernel), gt_in 1761 (by decide +kernel) (by decide +kernel), gt_in 76 (by decide +kernel) (by decide +kernel), gt_in 121 (by decide +kernel) (by decide +kernel), gt_in 1762 (by decide +kernel) (by decide +kernel), by decide +kernel⟩
theorem v_12_292 : Vw_ RX12 292 RX12 yX12_oneMeal cX12_oneMeal 4 none 0 := ⟨gt_in 1763 (by decide +kernel) (by decide +kernel), gt_in 1765 (by decide +kernel) (by decide +kernel), gt_in 77 (by decide +kernel) (by decide +kernel), gt_in 121 (by decide +kernel) (by decide +kernel), gt_in 1766 (by decide +kernel) (by decide +kernel), by decide +kernel⟩
theorem v_L_104 : Vw_ RL 104 RX12 yX12_order cX12_order 1 (some .int) 0 := ⟨gt_in 1767 (by decide +kernel) (by decide +kernel), gt_in 1768 (by decide +kernel) (by decide +kernel), gt_in 1769 (by decide +kernel) (by decide +kernel), gt_in 121 (by decide +kernel) (by decide +kernel), gt_in 1770 (by decide +kernel) (by decide +kernel), by decide +kernel⟩
theorem v_12_309 : Vw_ RX12 309 RX12 yX12_living cX12_living 1 (some .int) 0 := ⟨gt_in 1772 (by decide +kernel) (by decide +kernel), gt_in 1774 (by decide +kernel) (by decide +kernel), gt_in 78 (by decide +kernel) (by decide +kernel), gt_in 121 (by decide +kernel) (by decide +kernel), gt_in 1775 (by decide +kernel) (by decide +kernel), by decide +kernel⟩
theorem s_12_312 : Sw_ RX12 312 yX12_bits cX12_bits 3 (some .int) 1 := ⟨gt_in 1776 (by decide +kernel) (by decide +kernel), gt_in 1777 (by decide +kernel) (by decide +kernel), gt_in 121 (by decide +kernel) (by decide +kernel), gt_in 1778 (by decide +kernel) (by decide +kernel), by decide +kernel⟩
theorem v_12_304 : Vw_ RX12 304 RX12 yX12_orderFrom cX12_orderFrom 5 none 2 := ⟨gt_in 1779 (by decide +kernel) (by decide +kernel), gt_in 1781 (by decide +kernel) (by decide +kernel), gt_in 79 (by decide +kernel) (by decide +kernel), gt_in 121 (by decide +kernel) (by decide +kernel), gt_in 1782 (by decide +kernel) (by decide +kernel), by decide +kernel⟩
theorem v_12_301 : Vw_ RX12 301 RX12 yX12_eatsAll cX12_eatsAll 3 none 1 := ⟨gt_in 1783 (by decide +kernel) (by decide +kernel), gt_in 1785 (by decide +kernel) (by decide +kernel), gt_in 80 (by decide +kernel) (by decide +kernel), gt_in 121 (by decide +kernel) (by decide +kernel), gt_in 1786 (by decide +kernel) (by decide +kernel), by decide +kernel⟩
theorem v_L_108 : Vw_ RL 108 RX12 yX12_orderAt cX12_orderAt 2 (some .int) 1 := ⟨gt_in 1787 (by decide +kernel) (by decide +kernel), gt_in 1788 (by decide +kernel) (by decide +kernel), gt_in 1789 (by decide +kernel) (by decide +kernel), gt_in 121 (by decide +kernel) (by decide +kernel), gt_in 1790 (by decide +kernel) (by decide +kernel), by decide +kernel⟩
theorem v_L_112 : Vw_ RL 112 RX12 yX12_eaters cX12_eaters 6 (some .int) 0 := ⟨gt_in 1791 (by decide +kernel) (by decide +kernel), gt_in 1792 (by decide +kernel) (by decide +kernel), gt_in 1793 (by decide +kernel) (by decide +kernel), gt_in 121 (by decide +kernel) (by decide +kernel), gt_in 1794 (by decide +kernel) (by decide +kernel), by decide +kernel⟩
theorem s_12_318 : Sw_ RX12 318 yX12_size cX12_size 1 (some .int) 1 := ⟨gt_in 1795 (by decide +kernel) (by decide +kernel), gt_in 1796 (by decide +kernel) (by decide +kernel), gt_in 121 (by decide +kernel) (by decide +kernel), gt_in 1797 (by decide +kernel) (by decide +kernel), by decide +kernel⟩
theorem v_L_116 : Vw_ RL 116 RX12 yX12_surely cX12_surely 1 (some .int) 0 := ⟨gt_in 1798 (by decide +kernel) (by decide +kernel), gt_in 1799 (by decide +kernel) (by decide +kernel), gt_in 1800 (by decide +kernel) (by decide +kernel), gt_in 121 (by decide +kernel) (by decide +kernel), gt_in 1801 (by decide +kernel) (by decide +kernel), by decide +kernel⟩
theorem v_L_120 : Vw_ RL 120 RX12 yX12_ask cX12_ask 1 (some .int) 0 := ⟨gt_in 1802 (by decide +kernel) (by decide +kernel), gt_in 1803 (by decide +kernel) (by decide +kernel), gt_in 1804 (by decide +kernel) (by decide +kernel), gt_in 121 (by decide +kernel) (by decide +kernel), gt_in 1805 (by decide +kernel) (by decide +kernel), by decide +kernel⟩
theorem v_L_124 : Vw_ RL 124 RX12 yX12_share cX12_share 11 (some .int) 3 := ⟨gt_in 1806 (by decide +kernel) (by decide +kernel), gt_in 1807 (by decide +kernel) (by decide +kernel), gt_in 1808 (by decide +kernel) (by decide +kernel), gt_in 121 (by decide +kernel) (by decide +kernel), gt_in 1809 (by decide +kernel) (by decide +kernel), by decide +kernel⟩
theorem v_L_128 : Vw_ RL 128 RX12 yX12_last cX12_last 6 (some .int) 1 := ⟨gt_in 1810 (by decide +kernel) (by decide +kernel), gt_in 1811 (by decide +kernel) (by decide +kernel), gt_in 1812 (by decide +kernel) (by decide +kernel), gt_in 121 (by decide +kernel) (by decide +kernel), gt_in 1813 (by decide +kernel) (by decide +kernel), by decide +kernel⟩
theorem v_L_132 : Vw_ RL 132 RX12 yX12_seats cX12_seats 1 (some .int) 0 := ⟨gt_in 1814 (by decide +kernel) (by decide +kernel), gt_in 1815 (by decide +kernel) (by decide +kernel), gt_in 1816 (by decide +kernel) (by decide +kernel), gt_in 121 (by decide +kernel) (by decide +kernel), gt_in 1817 (by decide +kernel) (by decide +kernel), by decide +kernel⟩
theorem v_12_323 : Vw_ RX12 323 RX12 yX12_seatFrom cX12_seatFrom 5 none 3 := ⟨gt_in 1818 (by decide +kernel) (by decide +kernel), gt_in 1820 (by decide +kernel) (by decide +kernel), gt_in 81 (by decide +kernel) (by decide +kernel), gt_in 121 (by decide +kernel) (by decide +kernel), gt_in 1821 (by decide +kernel) (by decide +kernel), by decide +kernel⟩
theorem v_L_136 : Vw_ RL 136 RX12 yX12_seatAt cX12_seatAt 2 (some .int) 1 := ⟨gt_in 1822 (by decide +kernel) (by decide +kernel), gt_in 1823 (by decide +kernel) (by decide +kernel), gt_in 1824 (by decide +kernel) (by decide +kernel), gt_in 121 (by decide +kernel) (by decide +kernel), gt_in 1825 (by decide +kernel) (by decide +kernel), by decide +kernel⟩
theorem v_L_140 : Vw_ RL 140 RX12 yX12_left cX12_left 4 (some .int) 1 := ⟨gt_in 1826 (by decide +kernel) (by decide +kernel), gt_in 1827 (by decide +kernel) (by decide +kernel), gt_in 1828 (by decide +kernel) (by decide +kernel), gt_in 121 (by decide +kernel) (by decide +kernel), gt_in 1829 (by decide +kernel) (by decide +kernel), by decide +kernel⟩
theorem v_12_329 : Vw_ RX12 329 RX12 yX12_layAside cX12_layAside 2 none 0 := ⟨gt_in 1830 (by decide +kernel) (by decide +kernel), gt_in 1832 (by decide +kernel) (by decide +kernel), gt_in 82 (by decide +kernel) (by decide +kernel), gt_in 121 (by decide +kernel) (by decide +kernel), gt_in 1833 (by decide +kernel) (by decide +kernel), by decide +kernel⟩
theorem v_12_332 : Vw_ RX12 332 RX12 yX12_takeBack cX12_takeBack 2 none 0 := ⟨gt_in 1834 (by decide +kernel) (by decide +kernel), gt_in 1836 (by decide +kernel) (by decide +kernel), gt_in 83 (by decide +kernel) (by decide +kernel), gt_in 121 (by decide +kernel) (by decide +kernel), gt_in 1837 (by decide +kernel) (by decide +kernel), by decide +kernel⟩
theorem v_L_144 : Vw_ RL 144 RX12 yX12_kin cX12_kin 8 (some .int) 2 := ⟨gt_in 1838 (by decide +kernel) (by decide +kernel), gt_in 1839 (by decide +kernel) (by decide +kernel), gt_in 1840 (by decide +kernel) (by decide +kernel), gt_in 121 (by decide +kernel) (by decide +kernel), gt_in 1841 (by decide +kernel) (by decide +kernel), by decide +kernel⟩
theorem v_L_148 : Vw_ RL 148 RX12 yX12_hungriest cX12_hungriest 3 (some .int) 0 := ⟨gt_in 1842 (by decide +kernel) (by decide +kernel), gt_in 1843 (by decide +kernel) (by decide +kernel), gt_in 1844 (by decide +kernel) (by decide +kernel), gt_in 121 (by decide +kernel) (by decide +kernel), gt_in 1845 (by decide +kernel) (by decide +kernel), by decide +kernel⟩
theorem v_L_152 : Vw_ RL 152 RX12 yX12_will cX12_will 3 (some .int) 1 := ⟨gt_in 1846 (by decide +kernel) (by decide +kernel), gt_in 1847 (by decide +kernel) (by decide +kernel), gt_in 1848 (by decide +kernel) (by decide +kernel), gt_in 121 (by decide +kernel) (by decide +kernel), gt_in 1849 (by decide +kernel) (by decide +kernel), by decide +kernel⟩
theorem v_12_338 : Vw_ RX12 338 RX12 yX12_writeWord cX12_writeWord 3 none 1 := ⟨gt_in 1850 (by decide +kernel) (by decide +kernel), gt_in 1852 (by decide +kernel) (by decide +kernel), gt_in 84 (by decide +kernel) (by decide +kernel), gt_in 121 (by decide +kernel) (by decide +kernel), gt_in 1853 (by decide +kernel) (by decide +kernel), by decide +kernel⟩
theorem v_12_342 : Vw_ RX12 342 RX12 yX12_write cX12_write 2 none 1 := ⟨gt_in 1854 (by decide +kernel) (by decide +kernel), gt_in 1856 (by decide +kernel) (by decide +kernel), gt_in 85 (by decide +kernel) (by decide +kernel), gt_in 121 (by decide +kernel) (by decide +kernel), gt_in 1857 (by decide +kernel) (by decide +kernel), by decide +kernel⟩
theorem v_12_348 : Vw_ RX12 348 RX12 yX12_writeNext cX12_writeNext 3 none 1 := ⟨gt_in 1858 (by decide +kernel) (by decide +kernel), gt_in 1860 (by decide +kernel) (by decide +kernel), gt_in 86 (by decide +kernel) (by decide +kernel), gt_in 121 (by decide +kernel) (by decide +kernel), gt_in 1861 (by decide +kernel) (by decide +kernel), by decide +kernel⟩
theorem v_12_345 : Vw_ RX12 345 RX12 yX12_writeNumber cX12_writeNumber 2 none 1 := ⟨gt_in 1862 (by decide +kernel) (by decide +kernel), gt_in 1864 (by decide +kernel) (by decide +kernel), gt_in 87 (by decide +kernel) (by decide +kernel), gt_in 121 (by decide +kernel) (by decide +kernel), gt_in 1865 (by decide +kernel) (by decide +kernel), by decide +kernel⟩
theorem v_L_156 : Vw_ RL 156 RX12 yX12_byteAt cX12_byteAt 2 (some .int) 1 := ⟨gt_in 1866 (by decide +kernel) (by decide +kernel), gt_in 1867 (by decide +kernel) (by decide +kernel), gt_in 1868 (by decide +kernel) (by decide +kernel), gt_in 121 (by decide +kernel) (by decide +kernel), gt_in 1869 (by decide +kernel) (by decide +kernel), by decide +kernel⟩
theorem v_L_160 : Vw_ RL 160 RX12 yX12_drawn cX12_drawn 3 (some .int) 2 := ⟨gt_in 1870 (by decide +kernel) (by decide +kernel), gt_in 1871 (by decide +kernel) (by decide +kernel), gt_in 1872 (by decide +kernel) (by decide +kernel), gt_in 121 (by decide +kernel) (by decide +kernel), gt_in 1873 (by decide +kernel) (by decide +kernel), by decide +kernel⟩
theorem v_12_358 : Vw_ RX12 358 RX12 yX12_drawMeals cX12_drawMeals 7 (some .int) 2 := ⟨gt_in 1874 (by decide +kernel) (by decide +kernel), gt_in 1876 (by decide +kernel) (by decide +kernel), gt_in 88 (by decide +kernel) (by decide +kernel), gt_in 121 (by decide +kernel) (by decide +kernel), gt_in 1877 (by decide +kernel) (by decide +kernel), by decide +kernel⟩
theorem v_12_355 : Vw_ RX12 355 RX12 yX12_draw cX12_draw 2 (some .int) 1 := ⟨gt_in 1878 (by decide +kernel) (by decide +kernel), gt_in 1880 (by decide +kernel) (by decide +kernel), gt_in 89 (by decide +kernel) (by decide +kernel), gt_in 121 (by decide +kernel) (by decide +kernel), gt_in 1881 (by decide +kernel) (by decide +kernel), by decide +kernel⟩
theorem v_L_164 : Vw_ RL 164 RX12 yX12_odds cX12_odds 6 (some .int) 3 := ⟨gt_in 1883 (by decide +kernel) (by decide +kernel), gt_in 1884 (by decide +kernel) (by decide +kernel), gt_in 1885 (by decide +kernel) (by decide +kernel), gt_in 121 (by decide +kernel) (by decide +kernel), gt_in 1886 (by decide +kernel) (by decide +kernel), by decide +kernel⟩
theorem v_L_168 : Vw_ RL 168 RX12 yX12_book cX12_book 4 (some .int) 1 := ⟨gt_in 1887 (by decide +kernel) (by decide +kernel), gt_in 1888 (by decide +kernel) (by decide +kernel), gt_in 1889 (by decide +kernel) (by decide +kernel), gt_in 121 (by decide +kernel) (by decide +kernel), gt_in 1890 (by decide +kernel) (by decide +kernel), by decide +kernel⟩
theorem v_12_367 : Vw_ RX12 367 RX12 yX12_readBookLine cX12_readBookLine 3 (some .boolean) 0 := ⟨gt_in 1891 (by decide +kernel) (by decide +kernel), gt_in 1893 (by decide +kernel) (by decide +kernel), gt_in 90 (by decide +kernel) (by decide +kernel), gt_in 121 (by decide +kernel) (by decide +kernel), gt_in 1894 (by decide +kernel) (by decide +kernel), by decide +kernel⟩
theorem v_12_364 : Vw_ RX12 364 RX12 yX12_readDoes cX12_readDoes 3 (some .boolean) 1 := ⟨gt_in 1895 (by decide +kernel) (by decide +kernel), gt_in 1897 (by decide +kernel) (by decide +kernel), gt_in 91 (by decide +kernel) (by decide +kernel), gt_in 121 (by decide +kernel) (by decide +kernel), gt_in 1898 (by decide +kernel) (by decide +kernel), by decide +kernel⟩
theorem v_12_370 : Vw_ RX12 370 RX12 yX12_goBy cX12_goBy 4 (some .int) 1 := ⟨gt_in 1899 (by decide +kernel) (by decide +kernel), gt_in 1901 (by decide +kernel) (by decide +kernel), gt_in 92 (by decide +kernel) (by decide +kernel), gt_in 121 (by decide +kernel) (by decide +kernel), gt_in 1902 (by decide +kernel) (by decide +kernel), by decide +kernel⟩
theorem v_12_376 : Vw_ RX12 376 RX12 yX12_stay cX12_stay 4 none 1 := ⟨gt_in 1903 (by decide +kernel) (by decide +kernel), gt_in 1905 (by decide +kernel) (by decide +kernel), gt_in 93 (by decide +kernel) (by decide +kernel), gt_in 121 (by decide +kernel) (by decide +kernel), gt_in 1906 (by decide +kernel) (by decide +kernel), by decide +kernel⟩
theorem v_L_172 : Vw_ RL 172 RX12 yX12_told cX12_told 2 (some .int) 1 := ⟨gt_in 1907 (by decide +kernel) (by decide +kernel), gt_in 1908 (by decide +kernel) (by decide +kernel), gt_in 1909 (by decide +kernel) (by decide +kernel), gt_in 121 (by decide +kernel) (by decide +kernel), gt_in 1910 (by decide +kernel) (by decide +kernel), by decide +kernel⟩
theorem v_L_176 : Vw_ RL 176 RX12 yX12_sentence cX12_sentence 2 (some .int) 0 := ⟨gt_in 1911 (by decide +kernel) (by decide +kernel), gt_in 1912 (by decide +kernel) (by decide +kernel), gt_in 1913 (by decide +kernel) (by decide +kernel), gt_in 121 (by decide +kernel) (by decide +kernel), gt_in 1914 (by decide +kernel) (by decide +kernel), by decide +kernel⟩
theorem v_12_413 : Vw_ RX12 413 RX12 yX12_readOr cX12_readOr 2 (some .boolean) 0 := ⟨gt_in 1915 (by decide +kernel) (by decide +kernel), gt_in 1917 (by decide +kernel) (by decide +kernel), gt_in 94 (by decide +kernel) (by decide +kernel), gt_in 121 (by decide +kernel) (by decide +kernel), gt_in 1918 (by decide +kernel) (by decide +kernel), by decide +kernel⟩
theorem v_12_383 : Vw_ RX12 383 RX12 yX12_readAnd cX12_readAnd 2 (some .boolean) 0 := ⟨gt_in 1919 (by decide +kernel) (by decide +kernel), gt_in 1921 (by decide +kernel) (by decide +kernel), gt_in 95 (by decide +kernel) (by decide +kernel), gt_in 121 (by decide +kernel) (by decide +kernel), gt_in 1922 (by decide +kernel) (by decide +kernel), by decide +kernel⟩
theorem v_12_392 : Vw_ RX12 392 RX12 yX12_readSaid cX12_readSaid 4 (some .boolean) 0 := ⟨gt_in 1923 (by decide +kernel) (by decide +kernel), gt_in 1925 (by decide +kernel) (by decide +kernel), gt_in 96 (by decide +kernel) (by decide +kernel), gt_in 121 (by decide +kernel) (by decide +kernel), gt_in 1926 (by decide +kernel) (by decide +kernel), by decide +kernel⟩
theorem v_12_401 : Vw_ RX12 401 RX12 yX12_readBracket cX12_readBracket 1 (some .boolean) 0 := ⟨gt_in 1927 (by decide +kernel) (by decide +kernel), gt_in 1929 (by decide +kernel) (by decide +kernel), gt_in 97 (by decide +kernel) (by decide +kernel), gt_in 121 (by decide +kernel) (by decide +kernel), gt_in 1930 (by decide +kernel) (by decide +kernel), by decide +kernel⟩
theorem v_12_404 : Vw_ RX12 404 RX12 yX12_readNot cX12_readNot 1 (some .boolean) 0 := ⟨gt_in 1931 (by decide +kernel) (by decide +kernel), gt_in 1933 (by decide +kernel) (by decide +kernel), gt_in 98 (by decide +kernel) (by decide +kernel), gt_in 121 (by decide +kernel) (by decide +kernel), gt_in 1934 (by decide +kernel) (by decide +kernel), by decide +kernel⟩
theorem v_12_389 : Vw_ RX12 389 RX12 yX12_saysOne cX12_saysOne 6 (some .int) 4 := ⟨gt_in 1935 (by decide +kernel) (by decide +kernel), gt_in 1937 (by decide +kernel) (by decide +kernel), gt_in 99 (by decide +kernel) (by decide +kernel), gt_in 121 (by decide +kernel) (by decide +kernel), gt_in 1938 (by decide +kernel) (by decide +kernel), by decide +kernel⟩
theorem v_12_407 : Vw_ RX12 407 RX12 yX12_readOf cX12_readOf 2 (some .boolean) 1 := ⟨gt_in 1939 (by decide +kernel) (by decide +kernel), gt_in 1941 (by decide +kernel) (by decide +kernel), gt_in 100 (by decide +kernel) (by decide +kernel), gt_in 121 (by decide +kernel) (by decide +kernel), gt_in 1942 (by decide +kernel) (by decide +kernel), by decide +kernel⟩
theorem v_12_416 : Vw_ RX12 416 RX12 yX12_readNamed cX12_readNamed 3 (some .boolean) 2 := ⟨gt_in 1943 (by decide +kernel) (by decide +kernel), gt_in 1945 (by decide +kernel) (by decide +kernel), gt_in 101 (by decide +kernel) (by decide +kernel), gt_in 121 (by decide +kernel) (by decide +kernel), gt_in 1946 (by decide +kernel) (by decide +kernel), by decide +kernel⟩
theorem v_12_410 : Vw_ RX12 410 RX12 yX12_readCompare cX12_readCompare 3 (some .boolean) 1 := ⟨gt_in 1947 (by decide +kernel) (by decide +kernel), gt_in 1949 (by decide +kernel) (by decide +kernel), gt_in 102 (by decide +kernel) (by decide +kernel), gt_in 121 (by decide +kernel) (by decide +kernel), gt_in 1950 (by decide +kernel) (by decide +kernel), by decide +kernel⟩
theorem v_L_180 : Vw_ RL 180 RX12 yX12_said cX12_said 4 (some .int) 1 := ⟨gt_in 1951 (by decide +kernel) (by decide +kernel), gt_in 1952 (by decide +kernel) (by decide +kernel), gt_in 1953 (by decide +kernel) (by decide +kernel), gt_in 121 (by decide +kernel) (by decide +kernel), gt_in 1954 (by decide +kernel) (by decide +kernel), by decide +kernel⟩
theorem v_12_419 : Vw_ RX12 419 RX12 yX12_holds cX12_holds 8 (some .boolean) 2 := ⟨gt_in 1955 (by decide +kernel) (by decide +kernel), gt_in 1957 (by decide +kernel) (by decide +kernel), gt_in 103 (by decide +kernel) (by decide +kernel), gt_in 121 (by decide +kernel) (by decide +kernel), gt_in 1958 (by decide +kernel) (by decide +kernel), by decide +kernel⟩
theorem v_L_184 : Vw_ RL 184 RX12 yX12_image cX12_image 3 (some .boolean) 1 := ⟨gt_in 1959 (by decide +kernel) (by decide +kernel), gt_in 1960 (by decide +kernel) (by decide +kernel), gt_in 1961 (by decide +kernel) (by decide +kernel), gt_in 121 (by decide +kernel) (by decide +kernel), gt_in 1962 (by decide +kernel) (by decide +kernel), by decide +kernel⟩
theorem v_L_188 : Vw_ RL 188 RX12 yX12_restore cX12_restore 3 (some .boolean) 1 := ⟨gt_in 1963 (by decide +kernel) (by decide +kernel), gt_in 1964 (by decide +kernel) (by decide +kernel), gt_in 1965 (by decide +kernel) (by decide +kernel), gt_in 121 (by decide +kernel) (by decide +kernel), gt_in 1966 (by decide +kernel) (by decide +kernel), by decide +kernel⟩
theorem v_L_192 : Vw_ RL 192 RX12 yX12_count cX12_count 2 (some .int) 1 := ⟨gt_in 1967 (by decide +kernel) (by decide +kernel), gt_in 1968 (by decide +kernel) (by decide +kernel), gt_in 1969 (by decide +kernel) (by decide +kernel), gt_in 121 (by decide +kernel) (by decide +kernel), gt_in 1970 (by decide +kernel) (by decide +kernel), by decide +kernel⟩
end
section
section GH
variable {p : Program} {l : Launch} {e : Env} {Rm : Room} {s : State} {m : MethodId} {args : Array Value} {below : List Frame} {meth : Method} {c : Code} {cells slots : Nat} {Q : State → Prop}
variable {cc : ByteArray} {pc nL : Nat} {own : String} {D : va_G} {cy : Nat → ClassId} {A : Nat → Prop} {H0 : Heap} {L : List Nat} {κ ln : Nat → Nat} {R : Nat → Nat → Option Nat} {I : Nat → Nat → Int32} {J : Nat → Nat → Int64} {lo lo2 : List (Nat × Value)} {st : List Value}
theorem vi_of {i : Int32} {n N : Nat} (hi : i.toNatClampNeg = n) (h0 : ¬ i < 0) (hn : n < N) : vp_in i N := fun h => h.elim h0 (fun h => by omega)
theorem h_putI (C : CallFix p m c cc nL s args GT own) {a ci k idx : Nat} {Cn : String} {T : u_T} {N : Nat} (K : Wc_ D cy A L s) (ha : a ∈ L) (hk : κ a = ci) (F : Fd_ own idx ci k 0 Cn T N) {v : Int32} (P : Pd_ T N k false .int) (hd : decode cc pc = .ok (.putfield idx, 3)) (kk : ∀ I2, I2 = u2_ I a k v → WG p l e Rm s m args below meth c nL cells slots Q D cy A H0 L κ ln R I2 J (pc + 3) lo st) : WG p l e Rm s m args below meth c nL cells slots Q D cy A H0 L κ ln R I J pc lo (.int v :: .ref a :: st) := g_putI C K ha hk F P rfl rfl hd (kk _ rfl)
theorem h_putJ (C : CallFix p m c cc nL s args GT own) {a ci k idx : Nat} {Cn : String} {T : u_T} {N : Nat} (K : Wc_ D cy A L s) (ha : a ∈ L) (hk : κ a = ci) (F : Fd_ own idx ci k 1 Cn T N) {v : Int64} (P : Pd_ T N k false .long) (hd : decode cc pc = .ok (.putfield idx, 3)) (kk : ∀ J2, J2 = u2_ J a k v → WG p l e Rm s m args below meth c nL cells slots Q D cy A H0 L κ ln R I J2 (pc + 3) lo st) : WG p l e Rm s m args below meth c nL cells slots Q D cy A H0 L κ ln R I J pc lo (.long v :: .ref a :: st) := g_putJ C K ha hk F P rfl rfl hd (kk _ rfl)
theorem h_putZ (C : CallFix p m c cc nL s args GT own) {a ci k idx : Nat} {Cn : String} {T : u_T} {N : Nat} (K : Wc_ D cy A L s) (ha : a ∈ L) (hk : κ a = ci) (F : Fd_ own idx ci k 0 Cn T N) {v : Int32} (P : Pd_ T N k false .boolean) (hb : v = 0 ∨ v = 1) (hd : decode cc pc = .ok (.putfield idx, 3)) (kk : ∀ I2, I2 = u2_ I a k v → WG p l e Rm s m args below meth c nL cells slots Q D cy A H0 L κ ln R I2 J (pc + 3) lo st) : WG p l e Rm s m args below meth c nL cells slots Q D cy A H0 L κ ln R I J pc lo (.int v :: .ref a :: st) := g_putI C K ha hk F P (by rcases hb with rfl | rfl <;> rfl) (by rcases hb with rfl | rfl <;> rfl) hd (kk _ rfl)
theorem h_iald (C : CallFix p m c cc nL s args GT own) (K : Wc_ D cy A L s) {a : Nat} (ha : a ∈ L) (hk : κ a = 14) {i v : Int32} (n : Nat) (hi : i.toNatClampNeg = n) (h0 : ¬ i < 0) (hn : n < ln a) (hv : I a n = v) (hd : decode cc pc = .ok (.iaload, 1)) (kk : WG p l e Rm s m args below meth c nL cells slots Q D cy A H0 L κ ln R I J (pc + 1) lo (.int v :: st)) : WG p l e Rm s m args below meth c nL cells slots Q D cy A H0 L κ ln R I J pc lo (.int i :: .ref a :: st) := g_iald C K ha hk (vi_of hi h0 hn) (by rw [hi]; exact hv) hd kk
theorem h_bald (C : CallFix p m c cc nL s args GT own) (K : Wc_ D cy A L s) {a : Nat} (ha : a ∈ L) (hk : κ a = 13) {i v : Int32} (n : Nat) (hi : i.toNatClampNeg = n) (h0 : ¬ i < 0) (hn : n < ln a) (hv : I a n = v) (hd : decode cc pc = .ok (.baload, 1)) (kk : WG p l e Rm s m args below meth c nL cells slots Q D cy A H0 L κ ln R I J (pc + 1) lo (.int v :: st)) : WG p l e Rm s m args below meth c nL cells slots Q D cy A H0 L κ ln R I J pc lo (.int i :: .ref a :: st) := g_bald C K ha hk (vi_of hi h0 hn) (by rw [hi]; exact hv) hd kk
theorem h_zald (C : CallFix p m c cc nL s args GT own) (K : Wc_ D cy A L s) {a : Nat} (ha : a ∈ L) (hk : κ a = 16) {i v : Int32} (n : Nat) (hi : i.toNatClampNeg = n) (h0 : ¬ i < 0) (hn : n < ln a) (hv : I a n = v) (hd : decode cc pc = .ok (.baload, 1)) (kk : WG p l e Rm s m args below meth c nL cells slots Q D cy A H0 L κ ln R I J (pc + 1) lo (.int v :: st)) : WG p l e Rm s m args below meth c nL cells slots Q D cy A H0 L κ ln R I J pc lo (.int i :: .ref a :: st) := g_zald C K ha hk (vi_of hi h0 hn) (by rw [hi]; exact hv) hd kk
theorem h_lald (C : CallFix p m c cc nL s args GT own) (K : Wc_ D cy A L s) {a : Nat} (ha : a ∈ L) (hk : κ a = 15) {i : Int32} {v : Int64} (n : Nat) (hi : i.toNatClampNeg = n) (h0 : ¬ i < 0) (hn : n < ln a) (hv : J a n = v) (hd : decode cc pc = .ok (.laload, 1)) (kk : WG p l e Rm s m args below meth c nL cells slots Q D cy A H0 L κ ln R I J (pc + 1) lo (.long v :: st)) : WG p l e Rm s m args below meth c nL cells slots Q D cy A H0 L κ ln R I J pc lo (.int i :: .ref a :: st) := g_lald C K ha hk (vi_of hi h0 hn) (by rw [hi]; exact hv) hd kk
theorem h_aaldC (C : CallFix p m c cc nL s args GT own) (K : Wc_ D cy A L s) {a : Nat} (ha : a ∈ L) (hk : κ a = 17) {i : Int32} {b : Nat} (n : Nat) (hi : i.toNatClampNeg = n) (h0 : ¬ i < 0) (hn : n < ln a) (hv : R a n = some b) (hd : decode cc pc = .ok (.aaload, 1)) (kk : WG p l e Rm s m args below meth c nL cells slots Q D cy A H0 L κ ln R I J (pc + 1) lo (.ref b :: st)) : WG p l e Rm s m args below meth c nL cells slots Q D cy A H0 L κ ln R I J pc lo (.int i :: .ref a :: st) := g_aaldC C K ha hk (vi_of hi h0 hn) (by rw [hi]; exact hv) hd kk
theorem h_aaldI (C : CallFix p m c cc nL s args GT own) (K : Wc_ D cy A L s) {a : Nat} (ha : a ∈ L) (hk : κ a = 18) {i : Int32} {b : Nat} (n : Nat) (hi : i.toNatClampNeg = n) (h0 : ¬ i < 0) (hn : n < ln a) (hv : R a n = some b) (hd : decode cc pc = .ok (.aaload, 1)) (kk : WG p l e Rm s m args below meth c nL cells slots Q D cy A H0 L κ ln R I J (pc + 1) lo (.ref b :: st)) : WG p l e Rm s m args below meth c nL cells slots Q D cy A H0 L κ ln R I J pc lo (.int i :: .ref a :: st) := g_aaldI C K ha hk (vi_of hi h0 hn) (by rw [hi]; exact hv) hd kk
theorem h_iast (C : CallFix p m c cc nL s args GT own) (K : Wc_ D cy A L s) {a : Nat} (ha : a ∈ L) (hk : κ a = 14) {i v : Int32} (n : Nat) (hi : i.toNatClampNeg = n) (h0 : ¬ i < 0) (hn : n < ln a) (hd : decode cc pc = .ok (.iastore, 1)) (kk : ∀ I2, I2 = u2_ I a n v → WG p l e Rm s m args below meth c nL cells slots Q D cy A H0 L κ ln R I2 J (pc + 1) lo st) : WG p l e Rm s m args below meth c nL cells slots Q D cy A H0 L κ ln R I J pc lo (.int v :: .int i :: .ref a :: st) := g_iast C K ha hk (vi_of hi h0 hn) hd (kk _ (by rw [hi]))
theorem h_last (C : CallFix p m c cc nL s args GT own) (K : Wc_ D cy A L s) {a : Nat} (ha : a ∈ L) (hk : κ a = 15) {i : Int32} {v : Int64} (n : Nat) (hi : i.toNatClampNeg = n) (h0 : ¬ i < 0) (hn : n < ln a) (hd : decode cc pc = .ok (.lastore, 1)) (kk : ∀ J2, J2 = u2_ J a n v → WG p l e Rm s m args below meth c nL cells slots Q D cy A H0 L κ ln R I J2 (pc + 1) lo st) : WG p l e Rm s m args below meth c nL cells slots Q D cy A H0 L κ ln R I J pc lo (.long v :: .int i :: .ref a :: st) := g_last C K ha hk (vi_of hi h0 hn) hd (kk _ (by rw [hi]))
theorem h_bast (C : CallFix p m c cc nL s args GT own) (K : Wc_ D cy A L s) {a : Nat} (ha : a ∈ L) (hk : κ a = 13) {i v : Int32} (n : Nat) (hi : i.toNatClampNeg = n) (h0 : ¬ i < 0) (hn : n < ln a) (hd : decode cc pc = .ok (.bastore, 1)) (kk : ∀ I2, I2 = u2_ I a n (vp_nar .byte v) → WG p l e Rm s m args below meth c nL cells slots Q D cy A H0 L κ ln R I2 J (pc + 1) lo st) : WG p l e Rm s m args below meth c nL cells slots Q D cy A H0 L κ ln R I J pc lo (.int v :: .int i :: .ref a :: st) := by
  intro H locs ls hP hS hl
  have hD := pl_D K.1 K.2.1 (cel_ cy κ ln R I J)
  obtain ⟨q, hq0⟩ := pl_at (f := cel_ cy κ ln R I J) ha
  have hq := hq0
  rw [cel_i hk (by decide)] at hq
  refine va_bast C.1 C.2.1 K.2.2 hP hD hS q 0 hq rfl (vi_of hi h0 hn) hd (fun H1 locs1 hP1 _ hS1 => ?_)
  rw [hi, up_I, pl_set (g := cel_ cy κ ln R (u2_ I a n (vp_nar .byte v)) J) hD ha hq0 (fun b => ?_)] at hP1
  · exact kk _ rfl H1 locs1 ls hP1 hS1 hl
  · by_cases hb : b = a
    · subst hb; rw [va_up_self, cel_i hk (by decide)]
    · rw [va_up_ne _ _ hb]; exact cel_cong rfl rfl (fun j => (u2_b hb).symm) (fun _ => rfl) (fun _ => rfl)
theorem h_zast (C : CallFix p m c cc nL s args GT own) (K : Wc_ D cy A L s) {a : Nat} (ha : a ∈ L) (hk : κ a = 16) {i v : Int32} (n : Nat) (hi : i.toNatClampNeg = n) (h0 : ¬ i < 0) (hn : n < ln a) (hd : decode cc pc = .ok (.bastore, 1)) (kk : ∀ I2, I2 = u2_ I a n (vp_nar .boolean v) → WG p l e Rm s m args below meth c nL cells slots Q D cy A H0 L κ ln R I2 J (pc + 1) lo st) : WG p l e Rm s m args below meth c nL cells slots Q D cy A H0 L κ ln R I J pc lo (.int v :: .int i :: .ref a :: st) := by
  intro H locs ls hP hS hl
  have hD := pl_D K.1 K.2.1 (cel_ cy κ ln R I J)
  obtain ⟨q, hq0⟩ := pl_at (f := cel_ cy κ ln R I J) ha
  have hq := hq0
  rw [cel_i hk (by decide)] at hq
  refine va_zast C.1 C.2.1 K.2.2 hP hD hS q 3 hq rfl (vi_of hi h0 hn) hd (fun H1 locs1 hP1 _ hS1 => ?_)
  rw [hi, up_I, pl_set (g := cel_ cy κ ln R (u2_ I a n (vp_nar .boolean v)) J) hD ha hq0 (fun b => ?_)] at hP1
  · exact kk _ rfl H1 locs1 ls hP1 hS1 hl
  · by_cases hb : b = a
    · subst hb; rw [va_up_self, cel_i hk (by decide)]
    · rw [va_up_ne _ _ hb]; exact cel_cong rfl rfl (fun j => (u2_b hb).symm) (fun _ => rfl) (fun _ => rfl)
/-- the first n places of b are copied into a -/
def k2_ {α : Type} (f : Nat → Nat → α) (b a n : Nat) : Nat → Nat → α := fun q j => if q = a ∧ j < n then f b j else f q j
theorem k2_c {α : Type} {f : Nat → Nat → α} {b a n : Nat} : c2_ f b a 0 0 n = k2_ f b a n := by
  funext q j
  simp only [c2_, k2_, va_cpy]
  by_cases h1 : q = a
  · subst h1
    by_cases h2 : j < n <;> simp [h2]
  · simp [h1]
theorem k2_b {α : Type} {f : Nat → Nat → α} {b a n q j : Nat} (h : q ≠ a) : k2_ f b a n q j = f q j := by simp [k2_, h]
theorem k2_k {α : Type} {κ : Nat → Nat} {f : Nat → Nat → α} {b a n q j : Nat} (h : κ q ≠ κ a) : k2_ f b a n q j = f q j := k2_b (fun e => h (by rw [e]))
theorem h_copyI (C : CallFix p m c cc nL s args GT own) (K : Wc_ D cy A L s) {a b idx : Nat} (ha : a ∈ L) (hk : κ a = 14) (hb9 : b ∈ L) (hkb : κ b = 14) (hlk : Cond.methodLink own idx arraycopyName ∈ GT) {n : Int32} (N : Nat) (hN : n.toNatClampNeg = N) (h3 : ¬ n < 0) (h4 : N ≤ ln b) (h5 : N ≤ ln a) (hw : Cond.native arraycopyName ∈ GT ∧ Cond.static arraycopyName ∈ GT ∧ Cond.initialized "java/lang/System" ∈ GT)
    (hfr : 1 ≤ Rm.frames) (hlc : (st.map fun v => v.category).sum + (nativeFrameWords "java/lang/System" "arraycopy" 5 + 11) ≤ Rm.locals) (hd : decode cc pc = .ok (.invokestatic idx, 3)) (kk : ∀ I2, I2 = k2_ I b a N → WG p l e Rm s m args below meth c nL cells slots Q D cy A H0 L κ ln R I2 J (pc + 3) lo st) : WG p l e Rm s m args below meth c nL cells slots Q D cy A H0 L κ ln R I J pc lo (.int n :: .int 0 :: .ref a :: .int 0 :: .ref b :: st) := by
  refine g_copyI C K ha hk hb9 hkb hlk hw.1 hw.2.1 hw.2.2 (by decide) (by decide) h3 (by rw [hN, show (0 : Int32).toNatClampNeg = 0 from rfl]; omega) (by rw [hN, show (0 : Int32).toNatClampNeg = 0 from rfl]; omega) hfr hlc hd ?_
  rw [hN]
  exact kk _ k2_c
theorem h_copyJ (C : CallFix p m c cc nL s args GT own) (K : Wc_ D cy A L s) {a b idx : Nat} (ha : a ∈ L) (hk : κ a = 15) (hb9 : b ∈ L) (hkb : κ b = 15) (hlk : Cond.methodLink own idx arraycopyName ∈ GT) {n : Int32} (N : Nat) (hN : n.toNatClampNeg = N) (h3 : ¬ n < 0) (h4 : N ≤ ln b) (h5 : N ≤ ln a) (hw : Cond.native arraycopyName ∈ GT ∧ Cond.static arraycopyName ∈ GT ∧ Cond.initialized "java/lang/System" ∈ GT)
    (hfr : 1 ≤ Rm.frames) (hlc : (st.map fun v => v.category).sum + (nativeFrameWords "java/lang/System" "arraycopy" 5 + 11) ≤ Rm.locals) (hd : decode cc pc = .ok (.invokestatic idx, 3)) (kk : ∀ J2, J2 = k2_ J b a N → WG p l e Rm s m args below meth c nL cells slots Q D cy A H0 L κ ln R I J2 (pc + 3) lo st) : WG p l e Rm s m args below meth c nL cells slots Q D cy A H0 L κ ln R I J pc lo (.int n :: .int 0 :: .ref a :: .int 0 :: .ref b :: st) := by
  refine g_copyJ C K ha hk hb9 hkb hlk hw.1 hw.2.1 hw.2.2 (by decide) (by decide) h3 (by rw [hN, show (0 : Int32).toNatClampNeg = 0 from rfl]; omega) (by rw [hN, show (0 : Int32).toNatClampNeg = 0 from rfl]; omega) hfr hlc hd ?_
  rw [hN]
  exact kk _ k2_c
theorem t_icmp_ge (C : CallFix p m c cc nL s args GT own) {x y : Int32} {off : Int} {tgt : Nat} (h : y ≤ x) (hd : decode cc pc = .ok (.if_icmp .ge off, 3)) (ht : (pc : Int) + off = (tgt : Int)) (kt : WG p l e Rm s m args below meth c nL cells slots Q D cy A H0 L κ ln R I J tgt lo st) : WG p l e Rm s m args below meth c nL cells slots Q D cy A H0 L κ ln R I J pc lo (.int y :: .int x :: st) := g_icmp_ge C hd ht (fun _ => kt) (fun h2 => absurd h h2)
theorem n_icmp_ge (C : CallFix p m c cc nL s args GT own) {x y : Int32} {off : Int} {tgt : Nat} (h : ¬ (y ≤ x)) (hd : decode cc pc = .ok (.if_icmp .ge off, 3)) (ht : (pc : Int) + off = (tgt : Int)) (kt : WG p l e Rm s m args below meth c nL cells slots Q D cy A H0 L κ ln R I J (pc + 3) lo st) : WG p l e Rm s m args below meth c nL cells slots Q D cy A H0 L κ ln R I J pc lo (.int y :: .int x :: st) := g_icmp_ge C hd ht (fun h2 => absurd h2 h) (fun _ => kt)
theorem t_icmp_lt (C : CallFix p m c cc nL s args GT own) {x y : Int32} {off : Int} {tgt : Nat} (h : x < y) (hd : decode cc pc = .ok (.if_icmp .lt off, 3)) (ht : (pc : Int) + off = (tgt : Int)) (kt : WG p l e Rm s m args below meth c nL cells slots Q D cy A H0 L κ ln R I J tgt lo st) : WG p l e Rm s m args below meth c nL cells slots Q D cy A H0 L κ ln R I J pc lo (.int y :: .int x :: st) := g_icmp_lt C hd ht (fun _ => kt) (fun h2 => absurd h h2)
theorem n_icmp_lt (C : CallFix p m c cc nL s args GT own) {x y : Int32} {off : Int} {tgt : Nat} (h : ¬ (x < y)) (hd : decode cc pc = .ok (.if_icmp .lt off, 3)) (ht : (pc : Int) + off = (tgt : Int)) (kt : WG p l e Rm s m args below meth c nL cells slots Q D cy A H0 L κ ln R I J (pc + 3) lo st) : WG p l e Rm s m args below meth c nL cells slots Q D cy A H0 L κ ln R I J pc lo (.int y :: .int x :: st) := g_icmp_lt C hd ht (fun h2 => absurd h2 h) (fun _ => kt)
theorem t_icmp_gt (C : CallFix p m c cc nL s args GT own) {x y : Int32} {off : Int} {tgt : Nat} (h : y < x) (hd : decode cc pc = .ok (.if_icmp .gt off, 3)) (ht : (pc : Int) + off = (tgt : Int)) (kt : WG p l e Rm s m args below meth c nL cells slots Q D cy A H0 L κ ln R I J tgt lo st) : WG p l e Rm s m args below meth c nL cells slots Q D cy A H0 L κ ln R I J pc lo (.int y :: .int x :: st) := g_icmp_gt C hd ht (fun _ => kt) (fun h2 => absurd h h2)
theorem n_icmp_gt (C : CallFix p m c cc nL s args GT own) {x y : Int32} {off : Int} {tgt : Nat} (h : ¬ (y < x)) (hd : decode cc pc = .ok (.if_icmp .gt off, 3)) (ht : (pc : Int) + off = (tgt : Int)) (kt : WG p l e Rm s m args below meth c nL cells slots Q D cy A H0 L κ ln R I J (pc + 3) lo st) : WG p l e Rm s m args below meth c nL cells slots Q D cy A H0 L κ ln R I J pc lo (.int y :: .int x :: st) := g_icmp_gt C hd ht (fun h2 => absurd h2 h) (fun _ => kt)
theorem t_icmp_le (C : CallFix p m c cc nL s args GT own) {x y : Int32} {off : Int} {tgt : Nat} (h : x ≤ y) (hd : decode cc pc = .ok (.if_icmp .le off, 3)) (ht : (pc : Int) + off = (tgt : Int)) (kt : WG p l e Rm s m args below meth c nL cells slots Q D cy A H0 L κ ln R I J tgt lo st) : WG p l e Rm s m args below meth c nL cells slots Q D cy A H0 L κ ln R I J pc lo (.int y :: .int x :: st) := g_icmp_le C hd ht (fun _ => kt) (fun h2 => absurd h h2)
theorem n_icmp_le (C : CallFix p m c cc nL s args GT own) {x y : Int32} {off : Int} {tgt : Nat} (h : ¬ (x ≤ y)) (hd : decode cc pc = .ok (.if_icmp .le off, 3)) (ht : (pc : Int) + off = (tgt : Int)) (kt : WG p l e Rm s m args below meth c nL cells slots Q D cy A H0 L κ ln R I J (pc + 3) lo st) : WG p l e Rm s m args below meth c nL cells slots Q D cy A H0 L κ ln R I J pc lo (.int y :: .int x :: st) := g_icmp_le C hd ht (fun h2 => absurd h2 h) (fun _ => kt)
theorem t_icmp_eq (C : CallFix p m c cc nL s args GT own) {x y : Int32} {off : Int} {tgt : Nat} (h : x = y) (hd : decode cc pc = .ok (.if_icmp .eq off, 3)) (ht : (pc : Int) + off = (tgt : Int)) (kt : WG p l e Rm s m args below meth c nL cells slots Q D cy A H0 L κ ln R I J tgt lo st) : WG p l e Rm s m args below meth c nL cells slots Q D cy A H0 L κ ln R I J pc lo (.int y :: .int x :: st) := g_icmp_eq C hd ht (fun _ => kt) (fun h2 => absurd h h2)
theorem n_icmp_eq (C : CallFix p m c cc nL s args GT own) {x y : Int32} {off : Int} {tgt : Nat} (h : ¬ (x = y)) (hd : decode cc pc = .ok (.if_icmp .eq off, 3)) (ht : (pc : Int) + off = (tgt : Int)) (kt : WG p l e Rm s m args below meth c nL cells slots Q D cy A H0 L κ ln R I J (pc + 3) lo st) : WG p l e Rm s m args below meth c nL cells slots Q D cy A H0 L κ ln R I J pc lo (.int y :: .int x :: st) := g_icmp_eq C hd ht (fun h2 => absurd h2 h) (fun _ => kt)
theorem t_icmp_ne (C : CallFix p m c cc nL s args GT own) {x y : Int32} {off : Int} {tgt : Nat} (h : ¬ x = y) (hd : decode cc pc = .ok (.if_icmp .ne off, 3)) (ht : (pc : Int) + off = (tgt : Int)) (kt : WG p l e Rm s m args below meth c nL cells slots Q D cy A H0 L κ ln R I J tgt lo st) : WG p l e Rm s m args below meth c nL cells slots Q D cy A H0 L κ ln R I J pc lo (.int y :: .int x :: st) := g_icmp_ne C hd ht (fun _ => kt) (fun h2 => absurd h (fun q => q h2))
theorem n_icmp_ne (C : CallFix p m c cc nL s args GT own) {x y : Int32} {off : Int} {tgt : Nat} (h : x = y) (hd : decode cc pc = .ok (.if_icmp .ne off, 3)) (ht : (pc : Int) + off = (tgt : Int)) (kt : WG p l e Rm s m args below meth c nL cells slots Q D cy A H0 L κ ln R I J (pc + 3) lo st) : WG p l e Rm s m args below meth c nL cells slots Q D cy A H0 L κ ln R I J pc lo (.int y :: .int x :: st) := g_icmp_ne C hd ht (fun h2 => absurd h2 (fun q => q h)) (fun _ => kt)
theorem t_if_ge (C : CallFix p m c cc nL s args GT own) {x : Int32} {off : Int} {tgt : Nat} (h : 0 ≤ x) (hd : decode cc pc = .ok (.ifCond .ge off, 3)) (ht : (pc : Int) + off = (tgt : Int)) (kt : WG p l e Rm s m args below meth c nL cells slots Q D cy A H0 L κ ln R I J tgt lo st) : WG p l e Rm s m args below meth c nL cells slots Q D cy A H0 L κ ln R I J pc lo (.int x :: st) := g_if_ge C hd ht (fun _ => kt) (fun h2 => absurd h h2)
theorem n_if_ge (C : CallFix p m c cc nL s args GT own) {x : Int32} {off : Int} {tgt : Nat} (h : ¬ (0 ≤ x)) (hd : decode cc pc = .ok (.ifCond .ge off, 3)) (ht : (pc : Int) + off = (tgt : Int)) (kt : WG p l e Rm s m args below meth c nL cells slots Q D cy A H0 L κ ln R I J (pc + 3) lo st) : WG p l e Rm s m args below meth c nL cells slots Q D cy A H0 L κ ln R I J pc lo (.int x :: st) := g_if_ge C hd ht (fun h2 => absurd h2 h) (fun _ => kt)
theorem t_if_lt (C : CallFix p m c cc nL s args GT own) {x : Int32} {off : Int} {tgt : Nat} (h : x < 0) (hd : decode cc pc = .ok (.ifCond .lt off, 3)) (ht : (pc : Int) + off = (tgt : Int)) (kt : WG p l e Rm s m args below meth c nL cells slots Q D cy A H0 L κ ln R I J tgt lo st) : WG p l e Rm s m args below meth c nL cells slots Q D cy A H0 L κ ln R I J pc lo (.int x :: st) := g_if_lt C hd ht (fun _ => kt) (fun h2 => absurd h h2)
theorem n_if_lt (C : CallFix p m c cc nL s args GT own) {x : Int32} {off : Int} {tgt : Nat} (h : ¬ (x < 0)) (hd : decode cc pc = .ok (.ifCond .lt off, 3)) (ht : (pc : Int) + off = (tgt : Int)) (kt : WG p l e Rm s m args below meth c nL cells slots Q D cy A H0 L κ ln R I J (pc + 3) lo st) : WG p l e Rm s m args below meth c nL cells slots Q D cy A H0 L κ ln R I J pc lo (.int x :: st) := g_if_lt C hd ht (fun h2 => absurd h2 h) (fun _ => kt)
theorem t_if_gt (C : CallFix p m c cc nL s args GT own) {x : Int32} {off : Int} {tgt : Nat} (h : 0 < x) (hd : decode cc pc = .ok (.ifCond .gt off, 3)) (ht : (pc : Int) + off = (tgt : Int)) (kt : WG p l e Rm s m args below meth c nL cells slots Q D cy A H0 L κ ln R I J tgt lo st) : WG p l e Rm s m args below meth c nL cells slots Q D cy A H0 L κ ln R I J pc lo (.int x :: st) := g_if_gt C hd ht (fun _ => kt) (fun h2 => absurd h h2)
theorem n_if_gt (C : CallFix p m c cc nL s args GT own) {x : Int32} {off : Int} {tgt : Nat} (h : ¬ (0 < x)) (hd : decode cc pc = .ok (.ifCond .gt off, 3)) (ht : (pc : Int) + off = (tgt : Int)) (kt : WG p l e Rm s m args below meth c nL cells slots Q D cy A H0 L κ ln R I J (pc + 3) lo st) : WG p l e Rm s m args below meth c nL cells slots Q D cy A H0 L κ ln R I J pc lo (.int x :: st) := g_if_gt C hd ht (fun h2 => absurd h2 h) (fun _ => kt)
theorem t_if_le (C : CallFix p m c cc nL s args GT own) {x : Int32} {off : Int} {tgt : Nat} (h : x ≤ 0) (hd : decode cc pc = .ok (.ifCond .le off, 3)) (ht : (pc : Int) + off = (tgt : Int)) (kt : WG p l e Rm s m args below meth c nL cells slots Q D cy A H0 L κ ln R I J tgt lo st) : WG p l e Rm s m args below meth c nL cells slots Q D cy A H0 L κ ln R I J pc lo (.int x :: st) := g_if_le C hd ht (fun _ => kt) (fun h2 => absurd h h2)
theorem n_if_le (C : CallFix p m c cc nL s args GT own) {x : Int32} {off : Int} {tgt : Nat} (h : ¬ (x ≤ 0)) (hd : decode cc pc = .ok (.ifCond .le off, 3)) (ht : (pc : Int) + off = (tgt : Int)) (kt : WG p l e Rm s m args below meth c nL cells slots Q D cy A H0 L κ ln R I J (pc + 3) lo st) : WG p l e Rm s m args below meth c nL cells slots Q D cy A H0 L κ ln R I J pc lo (.int x :: st) := g_if_le C hd ht (fun h2 => absurd h2 h) (fun _ => kt)
theorem t_if_eq (C : CallFix p m c cc nL s args GT own) {x : Int32} {off : Int} {tgt : Nat} (h : x = 0) (hd : decode cc pc = .ok (.ifCond .eq off, 3)) (ht : (pc : Int) + off = (tgt : Int)) (kt : WG p l e Rm s m args below meth c nL cells slots Q D cy A H0 L κ ln R I J tgt lo st) : WG p l e Rm s m args below meth c nL cells slots Q D cy A H0 L κ ln R I J pc lo (.int x :: st) := g_if_eq C hd ht (fun _ => kt) (fun h2 => absurd h h2)
theorem n_if_eq (C : CallFix p m c cc nL s args GT own) {x : Int32} {off : Int} {tgt : Nat} (h : ¬ (x = 0)) (hd : decode cc pc = .ok (.ifCond .eq off, 3)) (ht : (pc : Int) + off = (tgt : Int)) (kt : WG p l e Rm s m args below meth c nL cells slots Q D cy A H0 L κ ln R I J (pc + 3) lo st) : WG p l e Rm s m args below meth c nL cells slots Q D cy A H0 L κ ln R I J pc lo (.int x :: st) := g_if_eq C hd ht (fun h2 => absurd h2 h) (fun _ => kt)
theorem t_if_ne (C : CallFix p m c cc nL s args GT own) {x : Int32} {off : Int} {tgt : Nat} (h : ¬ x = 0) (hd : decode cc pc = .ok (.ifCond .ne off, 3)) (ht : (pc : Int) + off = (tgt : Int)) (kt : WG p l e Rm s m args below meth c nL cells slots Q D cy A H0 L κ ln R I J tgt lo st) : WG p l e Rm s m args below meth c nL cells slots Q D cy A H0 L κ ln R I J pc lo (.int x :: st) := g_if_ne C hd ht (fun _ => kt) (fun h2 => absurd h (fun q => q h2))
theorem n_if_ne (C : CallFix p m c cc nL s args GT own) {x : Int32} {off : Int} {tgt : Nat} (h : x = 0) (hd : decode cc pc = .ok (.ifCond .ne off, 3)) (ht : (pc : Int) + off = (tgt : Int)) (kt : WG p l e Rm s m args below meth c nL cells slots Q D cy A H0 L κ ln R I J (pc + 3) lo st) : WG p l e Rm s m args below meth c nL cells slots Q D cy A H0 L κ ln R I J pc lo (.int x :: st) := g_if_ne C hd ht (fun h2 => absurd h2 (fun q => q h)) (fun _ => kt)
end GH
def rt_ : List (List (Nat × Nat)) := [[(14, 40), (14, 40), (14, 40), (14, 40)], [(8, 0), (14, 6), (14, 42), (14, 7), (14, 7), (14, 7), (14, 7)], [(14, 7)], [(8, 0), (1, 0), (7, 0)], [(17, 8), (14, 7), (14, 7)], [(17, 9)], [(14, 7)], [(14, 40), (14, 40), (14, 40), (14, 40)], [(15, 7), (14, 7), (14, 7), (15, 6), (14, 6)], [(8, 0), (1, 0)], [(13, 940), (15, 28), (14, 901), (14, 901), (15, 901)], [(10, 0), (8, 0), (1, 0), (1, 0), (5, 0), (9, 0), (0, 0), (7, 0), (7, 0), (4, 0), (6, 0), (2, 0), (18, 2), (13, 40)], [(99, 0), (14, 940), (99, 0), (99, 0), (99, 0), (99, 0), (99, 0), (99, 0), (99, 0), (99, 0), (99, 0), (99, 0), (99, 0), (99, 0), (14, 389), (14, 72), (14, 778), (14, 600), (14, 75), (15, 13), (15, 13), (15, 26), (16, 2), (99, 0), (99, 0), (99, 0), (14, 7), (14, 7), (14, 525), (99, 0), (99, 0), (14, 7), (99, 0), (99, 0), (16, 500), (14, 7), (14, 7), (99, 0), (99, 0), (14, 64), (99, 0), (99, 0), (14, 160), (14, 4), (99, 0), (99, 0), (14, 240)]]
/-- an object's references are as its class says: their kinds, their lengths, whose they are -/
def Shp (L : List Nat) (κ ln : Nat → Nat) (R : Nat → Nat → Option Nat) (ow : Nat → Nat × Nat) (a : Nat) : Prop := (∀ k q, (rt_.getD (κ a) [])[k]? = some q → q.1 < 99 → ∃ b, R a k = some b ∧ b ∈ L ∧ κ b = q.1 ∧ (13 ≤ q.1 → ln b = q.2 ∧ ow b = (a, k))) ∧ (κ a = 17 → ∀ i, i < ln a → ∃ b, R a i = some b ∧ b ∈ L ∧ κ b = 1) ∧ (κ a = 18 → ∀ i, i < ln a → ∃ b, R a i = some b ∧ b ∈ L ∧ κ b = 3)
theorem shp_o {L : List Nat} {κ ln : Nat → Nat} {R : Nat → Nat → Option Nat} {ow : Nat → Nat × Nat} {a ci : Nat} (h : Shp L κ ln R ow a) (hc : κ a = ci) (k t : Nat) (hq : (rt_.getD ci [])[k]? = some (t, 0)) (h9 : t < 13) : ∃ b, R a k = some b ∧ b ∈ L ∧ κ b = t := by
  subst hc
  obtain ⟨b, h1, h2, h3, -⟩ := h.1 k _ hq (show t < 99 by omega)
  exact ⟨b, h1, h2, h3⟩
theorem shp_a {L : List Nat} {κ ln : Nat → Nat} {R : Nat → Nat → Option Nat} {ow : Nat → Nat × Nat} {a ci : Nat} (h : Shp L κ ln R ow a) (hc : κ a = ci) (k t n : Nat) (hq : (rt_.getD ci [])[k]? = some (t, n)) (h9 : 13 ≤ t ∧ t < 99) : ∃ b, R a k = some b ∧ b ∈ L ∧ κ b = t ∧ ln b = n ∧ ow b = (a, k) := by
  subst hc
  obtain ⟨b, h1, h2, h3, h4⟩ := h.1 k _ hq h9.2
  exact ⟨b, h1, h2, h3, (h4 h9.1).1, (h4 h9.1).2⟩
end
section
/-! small numbers against written ones -/
theorem lt_ge {n k : Nat} (h : k ≤ n) (hn : n < 2147483648) : (OfNat.ofNat k : Int32) ≤ nI n := nI_le h hn
theorem ln_ge {n k : Nat} (h : n < k) (hk : k < 2147483648) : ¬ (OfNat.ofNat k : Int32) ≤ nI n := nI_ge h hk
theorem lt_lt {n k : Nat} (h : n < k) (hk : k < 2147483648) : nI n < (OfNat.ofNat k : Int32) := nI_lt h hk
theorem ln_lt {n k : Nat} (h : k ≤ n) (hn : n < 2147483648) : ¬ nI n < (OfNat.ofNat k : Int32) := nI_nlt h hn
theorem lt_gt {n k : Nat} (h : k < n) (hn : n < 2147483648) : (OfNat.ofNat k : Int32) < nI n := nI_lt h hn
theorem ln_gt {n k : Nat} (h : n ≤ k) (hk : k < 2147483648) : ¬ (OfNat.ofNat k : Int32) < nI n := nI_nlt h hk
theorem lt_le {n k : Nat} (h : n ≤ k) (hk : k < 2147483648) : nI n ≤ (OfNat.ofNat k : Int32) := nI_le h hk
theorem ln_le {n k : Nat} (h : k < n) (hn : n < 2147483648) : ¬ nI n ≤ (OfNat.ofNat k : Int32) := nI_ge h hn
theorem lt_eq {n k : Nat} (h : n = k) (_hk : k < 2147483648) : nI n = (OfNat.ofNat k : Int32) := by subst h; rfl
theorem ln_eq {n k : Nat} (h : ¬ n = k) (hk : k < 2147483648 ∧ n < 2147483648) : ¬ nI n = (OfNat.ofNat k : Int32) := fun q => h ((nI_eq hk.2 hk.1).mp q)
theorem z_isIn {v b : Int32} (hb : b = -1) : ¬ (0 ≤ v ∧ v ≤ b) := by
  subst hb
  intro ⟨h1, h2⟩
  have h3 := Int32.le_iff_toInt_le.mp h1
  have h4 := Int32.le_iff_toInt_le.mp h2
  have h5 : (0 : Int32).toInt = 0 := rfl
  have h6 : (-1 : Int32).toInt = -1 := rfl
  omega
theorem b_in0 {x n : Int32} (h : x < 0) : 0 = (if 0 ≤ x ∧ x < n then (1 : Int32) else 0) := by rw [if_neg (fun q => Int32.lt_irrefl (Int32.lt_of_lt_of_le h q.1))]
theorem b_in1 {x n : Int32} (h : n ≤ x) : 0 = (if 0 ≤ x ∧ x < n then (1 : Int32) else 0) := by rw [if_neg (fun q => Int32.lt_irrefl (Int32.lt_of_lt_of_le q.2 h))]
theorem b_in2 {x n : Int32} (h : ¬ x < 0) (h2 : ¬ n ≤ x) : 1 = (if 0 ≤ x ∧ x < n then (1 : Int32) else 0) := by rw [if_pos ⟨Int32.not_lt.mp h, Int32.not_le.mp h2⟩]
theorem b_is0 {x a b : Int32} (h : x < a) : 0 = (if a ≤ x ∧ x ≤ b then (1 : Int32) else 0) := by rw [if_neg (fun q => Int32.lt_irrefl (Int32.lt_of_lt_of_le h q.1))]
theorem b_is1 {x a b : Int32} (h : b < x) : 0 = (if a ≤ x ∧ x ≤ b then (1 : Int32) else 0) := by rw [if_neg (fun q => Int32.lt_irrefl (Int32.lt_of_lt_of_le h q.2))]
theorem b_is2 {x a b : Int32} (h : ¬ x < a) (h2 : ¬ b < x) : 1 = (if a ≤ x ∧ x ≤ b then (1 : Int32) else 0) := by rw [if_pos ⟨Int32.not_lt.mp h, Int32.not_lt.mp h2⟩]
theorem i32_lt_le {a b : Int32} (h : ¬ a < b) : b ≤ a := Int32.not_lt.mp h
theorem i32_not_le {a b : Int32} (h : ¬ a ≤ b) : b < a := Int32.not_le.mp h
end
section
theorem dX10_add_0 : decode cX10_add 0 = .ok (.bipush 24, 2) := by decide +kernel
theorem dX10_add_2 : decode cX10_add 2 = .ok (.istore_n 2, 1) := by decide +kernel
theorem dX10_add_3 : decode cX10_add 3 = .ok (.iload_n 2, 1) := by decide +kernel
theorem dX10_add_4 : decode cX10_add 4 = .ok (.ifCond .lt 44, 3) := by decide +kernel
theorem dX10_add_7 : decode cX10_add 7 = .ok (.aload_n 0, 1) := by decide +kernel
theorem dX10_add_8 : decode cX10_add 8 = .ok (.getfield 29, 3) := by decide +kernel
theorem dX10_add_11 : decode cX10_add 11 = .ok (.aload_n 0, 1) := by decide +kernel
theorem dX10_add_12 : decode cX10_add 12 = .ok (.getfield 9, 3) := by decide +kernel
theorem dX10_add_15 : decode cX10_add 15 = .ok (.arraylength, 1) := by decide +kernel
theorem dX10_add_16 : decode cX10_add 16 = .ok (.if_icmp .ge 32, 3) := by decide +kernel
theorem dX10_add_19 : decode cX10_add 19 = .ok (.aload_n 0, 1) := by decide +kernel
theorem dX10_add_20 : decode cX10_add 20 = .ok (.getfield 9, 3) := by decide +kernel
theorem dX10_add_23 : decode cX10_add 23 = .ok (.aload_n 0, 1) := by decide +kernel
theorem dX10_add_24 : decode cX10_add 24 = .ok (.getfield 29, 3) := by decide +kernel
theorem dX10_add_27 : decode cX10_add 27 = .ok (.iload_n 1, 1) := by decide +kernel
theorem dX10_add_28 : decode cX10_add 28 = .ok (.iload_n 2, 1) := by decide +kernel
theorem dX10_add_29 : decode cX10_add 29 = .ok (.ishr, 1) := by decide +kernel
theorem dX10_add_30 : decode cX10_add 30 = .ok (.i2b, 1) := by decide +kernel
theorem dX10_add_31 : decode cX10_add 31 = .ok (.bastore, 1) := by decide +kernel
theorem dX10_add_32 : decode cX10_add 32 = .ok (.aload_n 0, 1) := by decide +kernel
theorem dX10_add_33 : decode cX10_add 33 = .ok (.dup, 1) := by decide +kernel
theorem dX10_add_34 : decode cX10_add 34 = .ok (.getfield 29, 3) := by decide +kernel
theorem dX10_add_37 : decode cX10_add 37 = .ok (.iconst 1, 1) := by decide +kernel
theorem dX10_add_38 : decode cX10_add 38 = .ok (.iadd, 1) := by decide +kernel
theorem dX10_add_39 : decode cX10_add 39 = .ok (.putfield 29, 3) := by decide +kernel
theorem dX10_add_42 : decode cX10_add 42 = .ok (.iinc 2 (-8), 3) := by decide +kernel
theorem dX10_add_45 : decode cX10_add 45 = .ok (.goto (-42), 3) := by decide +kernel
theorem dX10_add_48 : decode cX10_add 48 = .ok (.return_, 1) := by decide +kernel
theorem dX12_come_0 : decode cX12_come 0 = .ok (.bipush 24, 2) := by decide +kernel
theorem dX12_come_2 : decode cX12_come 2 = .ok (.istore_n 2, 1) := by decide +kernel
theorem dX12_come_3 : decode cX12_come 3 = .ok (.iload_n 2, 1) := by decide +kernel
theorem dX12_come_4 : decode cX12_come 4 = .ok (.ifCond .lt 35, 3) := by decide +kernel
theorem dX12_come_7 : decode cX12_come 7 = .ok (.aload_n 0, 1) := by decide +kernel
theorem dX12_come_8 : decode cX12_come 8 = .ok (.getfield 7, 3) := by decide +kernel
theorem dX12_come_11 : decode cX12_come 11 = .ok (.aload_n 0, 1) := by decide +kernel
theorem dX12_come_12 : decode cX12_come 12 = .ok (.getfield 85, 3) := by decide +kernel
theorem dX12_come_15 : decode cX12_come 15 = .ok (.iload_n 1, 1) := by decide +kernel
theorem dX12_come_16 : decode cX12_come 16 = .ok (.iload_n 2, 1) := by decide +kernel
theorem dX12_come_17 : decode cX12_come 17 = .ok (.iushr, 1) := by decide +kernel
theorem dX12_come_18 : decode cX12_come 18 = .ok (.sipush 255, 3) := by decide +kernel
theorem dX12_come_21 : decode cX12_come 21 = .ok (.iand, 1) := by decide +kernel
theorem dX12_come_22 : decode cX12_come 22 = .ok (.iastore, 1) := by decide +kernel
theorem dX12_come_23 : decode cX12_come 23 = .ok (.aload_n 0, 1) := by decide +kernel
theorem dX12_come_24 : decode cX12_come 24 = .ok (.dup, 1) := by decide +kernel
theorem dX12_come_25 : decode cX12_come 25 = .ok (.getfield 85, 3) := by decide +kernel
theorem dX12_come_28 : decode cX12_come 28 = .ok (.iconst 1, 1) := by decide +kernel
theorem dX12_come_29 : decode cX12_come 29 = .ok (.iadd, 1) := by decide +kernel
theorem dX12_come_30 : decode cX12_come 30 = .ok (.putfield 85, 3) := by decide +kernel
theorem dX12_come_33 : decode cX12_come 33 = .ok (.iinc 2 (-8), 3) := by decide +kernel
theorem dX12_come_36 : decode cX12_come 36 = .ok (.goto (-33), 3) := by decide +kernel
theorem dX12_come_39 : decode cX12_come 39 = .ok (.return_, 1) := by decide +kernel
theorem dX12_isIn_0 : decode cX12_isIn 0 = .ok (.iload_n 0, 1) := by decide +kernel
theorem dX12_isIn_1 : decode cX12_isIn 1 = .ok (.iload_n 1, 1) := by decide +kernel
theorem dX12_isIn_2 : decode cX12_isIn 2 = .ok (.if_icmp .lt 12, 3) := by decide +kernel
theorem dX12_isIn_5 : decode cX12_isIn 5 = .ok (.iload_n 0, 1) := by decide +kernel
theorem dX12_isIn_6 : decode cX12_isIn 6 = .ok (.iload_n 2, 1) := by decide +kernel
theorem dX12_isIn_7 : decode cX12_isIn 7 = .ok (.if_icmp .gt 7, 3) := by decide +kernel
theorem dX12_isIn_10 : decode cX12_isIn 10 = .ok (.iconst 1, 1) := by decide +kernel
theorem dX12_isIn_11 : decode cX12_isIn 11 = .ok (.goto 4, 3) := by decide +kernel
theorem dX12_isIn_14 : decode cX12_isIn 14 = .ok (.iconst 0, 1) := by decide +kernel
theorem dX12_isIn_15 : decode cX12_isIn 15 = .ok (.ireturn, 1) := by decide +kernel
theorem dX8_hasDish_0 : decode cX8_hasDish 0 = .ok (.iload_n 1, 1) := by decide +kernel
theorem dX8_hasDish_1 : decode cX8_hasDish 1 = .ok (.ifCond .lt 15, 3) := by decide +kernel
theorem dX8_hasDish_4 : decode cX8_hasDish 4 = .ok (.iload_n 1, 1) := by decide +kernel
theorem dX8_hasDish_5 : decode cX8_hasDish 5 = .ok (.aload_n 0, 1) := by decide +kernel
theorem dX8_hasDish_6 : decode cX8_hasDish 6 = .ok (.getfield 32, 3) := by decide +kernel
theorem dX8_hasDish_9 : decode cX8_hasDish 9 = .ok (.if_icmp .ge 7, 3) := by decide +kernel
theorem dX8_hasDish_12 : decode cX8_hasDish 12 = .ok (.iconst 1, 1) := by decide +kernel
theorem dX8_hasDish_13 : decode cX8_hasDish 13 = .ok (.goto 4, 3) := by decide +kernel
theorem dX8_hasDish_16 : decode cX8_hasDish 16 = .ok (.iconst 0, 1) := by decide +kernel
theorem dX8_hasDish_17 : decode cX8_hasDish 17 = .ok (.ireturn, 1) := by decide +kernel
theorem dX8_hasPerson_0 : decode cX8_hasPerson 0 = .ok (.iload_n 1, 1) := by decide +kernel
theorem dX8_hasPerson_1 : decode cX8_hasPerson 1 = .ok (.ifCond .lt 15, 3) := by decide +kernel
theorem dX8_hasPerson_4 : decode cX8_hasPerson 4 = .ok (.iload_n 1, 1) := by decide +kernel
theorem dX8_hasPerson_5 : decode cX8_hasPerson 5 = .ok (.aload_n 0, 1) := by decide +kernel
theorem dX8_hasPerson_6 : decode cX8_hasPerson 6 = .ok (.getfield 28, 3) := by decide +kernel
theorem dX8_hasPerson_9 : decode cX8_hasPerson 9 = .ok (.if_icmp .ge 7, 3) := by decide +kernel
theorem dX8_hasPerson_12 : decode cX8_hasPerson 12 = .ok (.iconst 1, 1) := by decide +kernel
theorem dX8_hasPerson_13 : decode cX8_hasPerson 13 = .ok (.goto 4, 3) := by decide +kernel
theorem dX8_hasPerson_16 : decode cX8_hasPerson 16 = .ok (.iconst 0, 1) := by decide +kernel
theorem dX8_hasPerson_17 : decode cX8_hasPerson 17 = .ok (.ireturn, 1) := by decide +kernel
set_option maxRecDepth 100000 in
set_option maxHeartbeats 4000000 in
theorem c_Table_hasPerson {l : Launch} {D : va_G} {cy : Nat → ClassId} {L : List Nat} {κ ln : Nat → Nat} {R : Nat → Nat → Option Nat} {I : Nat → Nat → Int32} {J : Nat → Nat → Int64} {a : Nat} (hL : a ∈ L) (hk : κ a = 8) (x n : Int32) (h5 : I a 5 = n) : CtI l yX8_hasPerson cX8_hasPerson 2 (some .boolean) { frames := 0, cells := 0, slots := 0, locals := 0 } D cy L κ ln R I J [.ref a, .int x] (fun r I2 J2 => I = I2 ∧ J = J2 ∧ r = if 0 ≤ x ∧ x < n then 1 else 0) := by
  refine CtI.of (by decide +kernel) (Nat.le_of_ble_eq_true rfl) ?_
  intro p e s m below meth c B K
  have C := B.1
  refine g_lo (is := [0, 1]) (lo2 := [(0, .ref a), (1, .int x)]) rfl ?_
  refine g_iload_n C 1 dX8_hasPerson_0 rfl rfl ?_
  refine g_if_lt C (tgt := 16) dX8_hasPerson_1 (by decide) (fun h_1 => ?_) (fun h_1 => ?_)
  · skip
    refine g_iconst C (v := 0) dX8_hasPerson_16 (by decide) ?_
    exact g_zret (ty := .boolean) (r := 0) B K rfl (by decide) (⟨rfl, rfl, by first | exact b_in2 (by assumption) (by assumption) | exact b_in1 (by assumption) | exact b_in0 (by assumption)⟩) dX8_hasPerson_17
  · skip
    refine g_iload_n C 1 dX8_hasPerson_4 rfl rfl ?_
    refine g_aload_n C 0 dX8_hasPerson_5 rfl rfl ?_
    refine g_getI C K hL hk f_8_28 (v := n) (h5) dX8_hasPerson_6 ?_
    refine g_icmp_ge C (tgt := 16) dX8_hasPerson_9 (by decide) (fun h_2 => ?_) (fun h_2 => ?_)
    · skip
      refine g_iconst C (v := 0) dX8_hasPerson_16 (by decide) ?_
      exact g_zret (ty := .boolean) (r := 0) B K rfl (by decide) (⟨rfl, rfl, by first | exact b_in2 (by assumption) (by assumption) | exact b_in1 (by assumption) | exact b_in0 (by assumption)⟩) dX8_hasPerson_17
    · skip
      refine g_iconst C (v := 1) dX8_hasPerson_12 (by decide) ?_
      refine g_goto C (tgt := 17) dX8_hasPerson_13 (by decide) ?_
      exact g_zret (ty := .boolean) (r := 1) B K rfl (by decide) (⟨rfl, rfl, by first | exact b_in2 (by assumption) (by assumption) | exact b_in1 (by assumption) | exact b_in0 (by assumption)⟩) dX8_hasPerson_17
set_option maxRecDepth 100000 in
set_option maxHeartbeats 4000000 in
theorem c_Table_hasDish {l : Launch} {D : va_G} {cy : Nat → ClassId} {L : List Nat} {κ ln : Nat → Nat} {R : Nat → Nat → Option Nat} {I : Nat → Nat → Int32} {J : Nat → Nat → Int64} {a : Nat} (hL : a ∈ L) (hk : κ a = 8) (x n : Int32) (h5 : I a 6 = n) : CtI l yX8_hasDish cX8_hasDish 2 (some .boolean) { frames := 0, cells := 0, slots := 0, locals := 0 } D cy L κ ln R I J [.ref a, .int x] (fun r I2 J2 => I = I2 ∧ J = J2 ∧ r = if 0 ≤ x ∧ x < n then 1 else 0) := by
  refine CtI.of (by decide +kernel) (Nat.le_of_ble_eq_true rfl) ?_
  intro p e s m below meth c B K
  have C := B.1
  refine g_lo (is := [0, 1]) (lo2 := [(0, .ref a), (1, .int x)]) rfl ?_
  refine g_iload_n C 1 dX8_hasDish_0 rfl rfl ?_
  refine g_if_lt C (tgt := 16) dX8_hasDish_1 (by decide) (fun h_3 => ?_) (fun h_3 => ?_)
  · skip
    refine g_iconst C (v := 0) dX8_hasDish_16 (by decide) ?_
    exact g_zret (ty := .boolean) (r := 0) B K rfl (by decide) (⟨rfl, rfl, by first | exact b_in2 (by assumption) (by assumption) | exact b_in1 (by assumption) | exact b_in0 (by assumption)⟩) dX8_hasDish_17
  · skip
    refine g_iload_n C 1 dX8_hasDish_4 rfl rfl ?_
    refine g_aload_n C 0 dX8_hasDish_5 rfl rfl ?_
    refine g_getI C K hL hk f_8_32 (v := n) (h5) dX8_hasDish_6 ?_
    refine g_icmp_ge C (tgt := 16) dX8_hasDish_9 (by decide) (fun h_4 => ?_) (fun h_4 => ?_)
    · skip
      refine g_iconst C (v := 0) dX8_hasDish_16 (by decide) ?_
      exact g_zret (ty := .boolean) (r := 0) B K rfl (by decide) (⟨rfl, rfl, by first | exact b_in2 (by assumption) (by assumption) | exact b_in1 (by assumption) | exact b_in0 (by assumption)⟩) dX8_hasDish_17
    · skip
      refine g_iconst C (v := 1) dX8_hasDish_12 (by decide) ?_
      refine g_goto C (tgt := 17) dX8_hasDish_13 (by decide) ?_
      exact g_zret (ty := .boolean) (r := 1) B K rfl (by decide) (⟨rfl, rfl, by first | exact b_in2 (by assumption) (by assumption) | exact b_in1 (by assumption) | exact b_in0 (by assumption)⟩) dX8_hasDish_17
set_option maxRecDepth 100000 in
set_option maxHeartbeats 4000000 in
theorem c_Mod_isIn {l : Launch} {D : va_G} {cy : Nat → ClassId} {L : List Nat} {κ ln : Nat → Nat} {R : Nat → Nat → Option Nat} {I : Nat → Nat → Int32} {J : Nat → Nat → Int64} (x a b : Int32) : CtI l yX12_isIn cX12_isIn 3 (some .boolean) { frames := 0, cells := 0, slots := 0, locals := 0 } D cy L κ ln R I J [.int x, .int a, .int b] (fun r I2 J2 => I = I2 ∧ J = J2 ∧ r = if a ≤ x ∧ x ≤ b then 1 else 0) := by
  refine CtI.of (by decide +kernel) (Nat.le_of_ble_eq_true rfl) ?_
  intro p e s m below meth c B K
  have C := B.1
  refine g_lo (is := [0, 1, 2]) (lo2 := [(0, .int x), (1, .int a), (2, .int b)]) rfl ?_
  refine g_iload_n C 0 dX12_isIn_0 rfl rfl ?_
  refine g_iload_n C 1 dX12_isIn_1 rfl rfl ?_
  refine g_icmp_lt C (tgt := 14) dX12_isIn_2 (by decide) (fun h_5 => ?_) (fun h_5 => ?_)
  · skip
    refine g_iconst C (v := 0) dX12_isIn_14 (by decide) ?_
    exact g_zret (ty := .boolean) (r := 0) B K rfl (by decide) (⟨rfl, rfl, by first | exact b_is2 (by assumption) (by assumption) | exact b_is1 (by assumption) | exact b_is0 (by assumption)⟩) dX12_isIn_15
  · skip
    refine g_iload_n C 0 dX12_isIn_5 rfl rfl ?_
    refine g_iload_n C 2 dX12_isIn_6 rfl rfl ?_
    refine g_icmp_gt C (tgt := 14) dX12_isIn_7 (by decide) (fun h_6 => ?_) (fun h_6 => ?_)
    · skip
      refine g_iconst C (v := 0) dX12_isIn_14 (by decide) ?_
      exact g_zret (ty := .boolean) (r := 0) B K rfl (by decide) (⟨rfl, rfl, by first | exact b_is2 (by assumption) (by assumption) | exact b_is1 (by assumption) | exact b_is0 (by assumption)⟩) dX12_isIn_15
    · skip
      refine g_iconst C (v := 1) dX12_isIn_10 (by decide) ?_
      refine g_goto C (tgt := 15) dX12_isIn_11 (by decide) ?_
      exact g_zret (ty := .boolean) (r := 1) B K rfl (by decide) (⟨rfl, rfl, by first | exact b_is2 (by assumption) (by assumption) | exact b_is1 (by assumption) | exact b_is0 (by assumption)⟩) dX12_isIn_15
set_option maxRecDepth 100000 in
set_option maxHeartbeats 4000000 in
theorem c_Tape_add {l : Launch} {D : va_G} {cy : Nat → ClassId} {L : List Nat} {κ ln : Nat → Nat} {R : Nat → Nat → Option Nat} {I : Nat → Nat → Int32} {J : Nat → Nat → Int64} {ow : Nat → Nat × Nat} {t : Nat} (W9 : ∀ a ∈ L, Shp L κ ln R ow a) (hL : t ∈ L) (hk : κ t = 10) (n : Nat) (hn : n + 4 ≤ 940) (h5 : I t 5 = nI n) (x : Int32) : CtV l yX10_add cX10_add 3 none { frames := 0, cells := 0, slots := 0, locals := 0 } D cy L κ ln R I J [.ref t, .int x] (fun I2 J2 => J = J2 ∧ I2 t 5 = nI (n + 4)) := by
  refine CtV.of (by decide +kernel) (Nat.le_of_ble_eq_true rfl) ?_
  intro p e s m below meth c B K
  have C := B.1
  refine g_lo (is := [0, 1]) (lo2 := [(0, .ref t), (1, .int x)]) rfl ?_
  refine g_bipush C (v := 24) dX10_add_0 (by decide) ?_
  refine g_istore_n C dX10_add_2 rfl (by decide) (lo2 := [(2, .int 24), (0, .ref t), (1, .int x)]) rfl ?_
  refine g_iload_n C 0 dX10_add_3 rfl rfl ?_
  refine n_if_lt C (tgt := 48) (by decide) dX10_add_4 (by decide) ?_
  refine g_aload_n C 1 dX10_add_7 rfl rfl ?_
  refine g_getI C K hL hk f_10_29 (v := nI n) (h5) dX10_add_8 ?_
  refine g_aload_n C 1 dX10_add_11 rfl rfl ?_
  obtain ⟨b_7, hb_7, hb_7L, hb_7k, hb_7n, hb_7o⟩ := shp_a (W9 t hL) hk 0 13 940 rfl (by decide)
  refine g_getR C K hL hk f_10_9 hb_7 dX10_add_12 ?_
  refine g_alenB C K hb_7L hb_7k (v := 940) (by rw [hb_7n]; rfl) dX10_add_15 ?_
  refine n_icmp_ge C (tgt := 48) (ln_ge (n := n) (k := 940) (by omega) (by omega)) dX10_add_16 (by decide) ?_
  refine g_aload_n C 1 dX10_add_19 rfl rfl ?_
  refine g_getR C K hL hk f_10_9 hb_7 dX10_add_20 ?_
  refine g_aload_n C 1 dX10_add_23 rfl rfl ?_
  refine g_getI C K hL hk f_10_29 (v := nI n) (h5) dX10_add_24 ?_
  refine g_iload_n C 2 dX10_add_27 rfl rfl ?_
  refine g_iload_n C 0 dX10_add_28 rfl rfl ?_
  refine g_ishr C (v := (x) >>> ((24) &&& 31)) dX10_add_29 rfl ?_
  refine g_i2b C dX10_add_30 rfl ?_
  refine h_bast C K hb_7L hb_7k (n) (nI_clamp (by omega)) (nI_pos (by omega)) (by rw [hb_7n]; omega) dX10_add_31 (fun I_8 hI_8 => ?_)
  refine g_aload_n C 1 dX10_add_32 rfl rfl ?_
  refine g_dup C dX10_add_33 rfl ?_
  refine g_getI C K hL hk f_10_29 (v := nI n) (by rw [hI_8, u2_k (κ := κ) (by rw [hk, hb_7k]; decide)]; exact h5) dX10_add_34 ?_
  refine g_iconst C (v := 1) dX10_add_37 (by decide) ?_
  refine g_iadd C (v := nI (n + 1)) dX10_add_38 (nI_add (n) 1) ?_
  refine h_putI C K hL hk f_10_29 p_10_5 dX10_add_39 (fun I_9 hI_9 => ?_)
  refine g_iinc C dX10_add_42 (k := 0) (v := 16) rfl (by decide) (by decide) (lo2 := [(2, .int 16), (0, .ref t), (1, .int x)]) rfl ?_
  refine g_goto C (tgt := 3) dX10_add_45 (by decide) ?_
  refine g_iload_n C 0 dX10_add_3 rfl rfl ?_
  refine n_if_lt C (tgt := 48) (by decide) dX10_add_4 (by decide) ?_
  refine g_aload_n C 1 dX10_add_7 rfl rfl ?_
  refine g_getI C K hL hk f_10_29 (v := nI (n + 1)) (by rw [hI_9]; exact u2_s) dX10_add_8 ?_
  refine g_aload_n C 1 dX10_add_11 rfl rfl ?_
  refine g_getR C K hL hk f_10_9 hb_7 dX10_add_12 ?_
  refine g_alenB C K hb_7L hb_7k (v := 940) (by rw [hb_7n]; rfl) dX10_add_15 ?_
  refine n_icmp_ge C (tgt := 48) (ln_ge (n := n + 1) (k := 940) (by omega) (by omega)) dX10_add_16 (by decide) ?_
  refine g_aload_n C 1 dX10_add_19 rfl rfl ?_
  refine g_getR C K hL hk f_10_9 hb_7 dX10_add_20 ?_
  refine g_aload_n C 1 dX10_add_23 rfl rfl ?_
  refine g_getI C K hL hk f_10_29 (v := nI (n + 1)) (by rw [hI_9]; exact u2_s) dX10_add_24 ?_
  refine g_iload_n C 2 dX10_add_27 rfl rfl ?_
  refine g_iload_n C 0 dX10_add_28 rfl rfl ?_
  refine g_ishr C (v := (x) >>> ((16) &&& 31)) dX10_add_29 rfl ?_
  refine g_i2b C dX10_add_30 rfl ?_
  refine h_bast C K hb_7L hb_7k (n + 1) (nI_clamp (by omega)) (nI_pos (by omega)) (by rw [hb_7n]; omega) dX10_add_31 (fun I_10 hI_10 => ?_)
  refine g_aload_n C 1 dX10_add_32 rfl rfl ?_
  refine g_dup C dX10_add_33 rfl ?_
  refine g_getI C K hL hk f_10_29 (v := nI (n + 1)) (by rw [hI_10, u2_k (κ := κ) (by rw [hk, hb_7k]; decide), hI_9]; exact u2_s) dX10_add_34 ?_
  refine g_iconst C (v := 1) dX10_add_37 (by decide) ?_
  refine g_iadd C (v := nI (n + 1 + 1)) dX10_add_38 (nI_add (n + 1) 1) ?_
  refine h_putI C K hL hk f_10_29 p_10_5 dX10_add_39 (fun I_11 hI_11 => ?_)
  refine g_iinc C dX10_add_42 (k := 0) (v := 8) rfl (by decide) (by decide) (lo2 := [(2, .int 8), (0, .ref t), (1, .int x)]) rfl ?_
  refine g_goto C (tgt := 3) dX10_add_45 (by decide) ?_
  refine g_iload_n C 0 dX10_add_3 rfl rfl ?_
  refine n_if_lt C (tgt := 48) (by decide) dX10_add_4 (by decide) ?_
  refine g_aload_n C 1 dX10_add_7 rfl rfl ?_
  refine g_getI C K hL hk f_10_29 (v := nI (n + 1 + 1)) (by rw [hI_11]; exact u2_s) dX10_add_8 ?_
  refine g_aload_n C 1 dX10_add_11 rfl rfl ?_
  refine g_getR C K hL hk f_10_9 hb_7 dX10_add_12 ?_
  refine g_alenB C K hb_7L hb_7k (v := 940) (by rw [hb_7n]; rfl) dX10_add_15 ?_
  refine n_icmp_ge C (tgt := 48) (ln_ge (n := n + 1 + 1) (k := 940) (by omega) (by omega)) dX10_add_16 (by decide) ?_
  refine g_aload_n C 1 dX10_add_19 rfl rfl ?_
  refine g_getR C K hL hk f_10_9 hb_7 dX10_add_20 ?_
  refine g_aload_n C 1 dX10_add_23 rfl rfl ?_
  refine g_getI C K hL hk f_10_29 (v := nI (n + 1 + 1)) (by rw [hI_11]; exact u2_s) dX10_add_24 ?_
  refine g_iload_n C 2 dX10_add_27 rfl rfl ?_
  refine g_iload_n C 0 dX10_add_28 rfl rfl ?_
  refine g_ishr C (v := (x) >>> ((8) &&& 31)) dX10_add_29 rfl ?_
  refine g_i2b C dX10_add_30 rfl ?_
  refine h_bast C K hb_7L hb_7k (n + 1 + 1) (nI_clamp (by omega)) (nI_pos (by omega)) (by rw [hb_7n]; omega) dX10_add_31 (fun I_12 hI_12 => ?_)
  refine g_aload_n C 1 dX10_add_32 rfl rfl ?_
  refine g_dup C dX10_add_33 rfl ?_
  refine g_getI C K hL hk f_10_29 (v := nI (n + 1 + 1)) (by rw [hI_12, u2_k (κ := κ) (by rw [hk, hb_7k]; decide), hI_11]; exact u2_s) dX10_add_34 ?_
  refine g_iconst C (v := 1) dX10_add_37 (by decide) ?_
  refine g_iadd C (v := nI (n + 1 + 1 + 1)) dX10_add_38 (nI_add (n + 1 + 1) 1) ?_
  refine h_putI C K hL hk f_10_29 p_10_5 dX10_add_39 (fun I_13 hI_13 => ?_)
  refine g_iinc C dX10_add_42 (k := 0) (v := 0) rfl (by decide) (by decide) (lo2 := [(2, .int 0), (0, .ref t), (1, .int x)]) rfl ?_
  refine g_goto C (tgt := 3) dX10_add_45 (by decide) ?_
  refine g_iload_n C 0 dX10_add_3 rfl rfl ?_
  refine n_if_lt C (tgt := 48) (by decide) dX10_add_4 (by decide) ?_
  refine g_aload_n C 1 dX10_add_7 rfl rfl ?_
  refine g_getI C K hL hk f_10_29 (v := nI (n + 1 + 1 + 1)) (by rw [hI_13]; exact u2_s) dX10_add_8 ?_
  refine g_aload_n C 1 dX10_add_11 rfl rfl ?_
  refine g_getR C K hL hk f_10_9 hb_7 dX10_add_12 ?_
  refine g_alenB C K hb_7L hb_7k (v := 940) (by rw [hb_7n]; rfl) dX10_add_15 ?_
  refine n_icmp_ge C (tgt := 48) (ln_ge (n := n + 1 + 1 + 1) (k := 940) (by omega) (by omega)) dX10_add_16 (by decide) ?_
  refine g_aload_n C 1 dX10_add_19 rfl rfl ?_
  refine g_getR C K hL hk f_10_9 hb_7 dX10_add_20 ?_
  refine g_aload_n C 1 dX10_add_23 rfl rfl ?_
  refine g_getI C K hL hk f_10_29 (v := nI (n + 1 + 1 + 1)) (by rw [hI_13]; exact u2_s) dX10_add_24 ?_
  refine g_iload_n C 2 dX10_add_27 rfl rfl ?_
  refine g_iload_n C 0 dX10_add_28 rfl rfl ?_
  refine g_ishr C (v := (x) >>> ((0) &&& 31)) dX10_add_29 rfl ?_
  refine g_i2b C dX10_add_30 rfl ?_
  refine h_bast C K hb_7L hb_7k (n + 1 + 1 + 1) (nI_clamp (by omega)) (nI_pos (by omega)) (by rw [hb_7n]; omega) dX10_add_31 (fun I_14 hI_14 => ?_)
  refine g_aload_n C 1 dX10_add_32 rfl rfl ?_
  refine g_dup C dX10_add_33 rfl ?_
  refine g_getI C K hL hk f_10_29 (v := nI (n + 1 + 1 + 1)) (by rw [hI_14, u2_k (κ := κ) (by rw [hk, hb_7k]; decide), hI_13]; exact u2_s) dX10_add_34 ?_
  refine g_iconst C (v := 1) dX10_add_37 (by decide) ?_
  refine g_iadd C (v := nI (n + 1 + 1 + 1 + 1)) dX10_add_38 (nI_add (n + 1 + 1 + 1) 1) ?_
  refine h_putI C K hL hk f_10_29 p_10_5 dX10_add_39 (fun I_15 hI_15 => ?_)
  refine g_iinc C dX10_add_42 (k := 0) (v := (-8)) rfl (by decide) (by decide) (lo2 := [(2, .int (-8)), (0, .ref t), (1, .int x)]) rfl ?_
  refine g_goto C (tgt := 3) dX10_add_45 (by decide) ?_
  refine g_iload_n C 0 dX10_add_3 rfl rfl ?_
  refine t_if_lt C (tgt := 48) (by decide) dX10_add_4 (by decide) ?_
  exact g_vret B K rfl (⟨rfl, by rw [hI_15]; exact u2_s⟩) dX10_add_48
set_option maxRecDepth 100000 in
set_option maxHeartbeats 4000000 in
theorem c_Mod_come {l : Launch} {D : va_G} {cy : Nat → ClassId} {L : List Nat} {κ ln : Nat → Nat} {R : Nat → Nat → Option Nat} {I : Nat → Nat → Int32} {J : Nat → Nat → Int64} {ow : Nat → Nat × Nat} {t : Nat} (W9 : ∀ a ∈ L, Shp L κ ln R ow a) (hL : t ∈ L) (hk : κ t = 12) (n : Nat) (hn : n + 4 ≤ 940) (h5 : I t 2 = nI n) (x : Int32) : CtV l yX12_come cX12_come 3 none { frames := 0, cells := 0, slots := 0, locals := 0 } D cy L κ ln R I J [.ref t, .int x] (fun I2 J2 => J = J2 ∧ I2 t 2 = nI (n + 4)) := by
  refine CtV.of (by decide +kernel) (Nat.le_of_ble_eq_true rfl) ?_
  intro p e s m below meth c B K
  have C := B.1
  refine g_lo (is := [0, 1]) (lo2 := [(0, .ref t), (1, .int x)]) rfl ?_
  refine g_bipush C (v := 24) dX12_come_0 (by decide) ?_
  refine g_istore_n C dX12_come_2 rfl (by decide) (lo2 := [(2, .int 24), (0, .ref t), (1, .int x)]) rfl ?_
  refine g_iload_n C 0 dX12_come_3 rfl rfl ?_
  refine n_if_lt C (tgt := 39) (by decide) dX12_come_4 (by decide) ?_
  refine g_aload_n C 1 dX12_come_7 rfl rfl ?_
  obtain ⟨b_16, hb_16, hb_16L, hb_16k, hb_16n, hb_16o⟩ := shp_a (W9 t hL) hk 1 14 940 rfl (by decide)
  refine g_getR C K hL hk f_12_7 hb_16 dX12_come_8 ?_
  refine g_aload_n C 1 dX12_come_11 rfl rfl ?_
  refine g_getI C K hL hk f_12_85 (v := nI n) (h5) dX12_come_12 ?_
  refine g_iload_n C 2 dX12_come_15 rfl rfl ?_
  refine g_iload_n C 0 dX12_come_16 rfl rfl ?_
  obtain ⟨x_17, hx_17⟩ : ∃ z : Int32, (Int32.toUInt32 (x) >>> (Int32.toUInt32 (24) &&& Int32.toUInt32 31)).toInt32 = z := ⟨_, rfl⟩
  refine g_iushr C dX12_come_17 hx_17 ?_
  refine g_sipush C (v := 255) dX12_come_18 (by decide) ?_
  refine g_iand C (v := (x_17) &&& (255)) dX12_come_21 rfl ?_
  refine h_iast C K hb_16L hb_16k (n) (nI_clamp (by omega)) (nI_pos (by omega)) (by rw [hb_16n]; omega) dX12_come_22 (fun I_18 hI_18 => ?_)
  refine g_aload_n C 1 dX12_come_23 rfl rfl ?_
  refine g_dup C dX12_come_24 rfl ?_
  refine g_getI C K hL hk f_12_85 (v := nI n) (by rw [hI_18, u2_k (κ := κ) (by rw [hk, hb_16k]; decide)]; exact h5) dX12_come_25 ?_
  refine g_iconst C (v := 1) dX12_come_28 (by decide) ?_
  refine g_iadd C (v := nI (n + 1)) dX12_come_29 (nI_add (n) 1) ?_
  refine h_putI C K hL hk f_12_85 p_12_2 dX12_come_30 (fun I_19 hI_19 => ?_)
  refine g_iinc C dX12_come_33 (k := 0) (v := 16) rfl (by decide) (by decide) (lo2 := [(2, .int 16), (0, .ref t), (1, .int x)]) rfl ?_
  refine g_goto C (tgt := 3) dX12_come_36 (by decide) ?_
  refine g_iload_n C 0 dX12_come_3 rfl rfl ?_
  refine n_if_lt C (tgt := 39) (by decide) dX12_come_4 (by decide) ?_
  refine g_aload_n C 1 dX12_come_7 rfl rfl ?_
  refine g_getR C K hL hk f_12_7 hb_16 dX12_come_8 ?_
  refine g_aload_n C 1 dX12_come_11 rfl rfl ?_
  refine g_getI C K hL hk f_12_85 (v := nI (n + 1)) (by rw [hI_19]; exact u2_s) dX12_come_12 ?_
  refine g_iload_n C 2 dX12_come_15 rfl rfl ?_
  refine g_iload_n C 0 dX12_come_16 rfl rfl ?_
  obtain ⟨x_20, hx_20⟩ : ∃ z : Int32, (Int32.toUInt32 (x) >>> (Int32.toUInt32 (16) &&& Int32.toUInt32 31)).toInt32 = z := ⟨_, rfl⟩
  refine g_iushr C dX12_come_17 hx_20 ?_
  refine g_sipush C (v := 255) dX12_come_18 (by decide) ?_
  refine g_iand C (v := (x_20) &&& (255)) dX12_come_21 rfl ?_
  refine h_iast C K hb_16L hb_16k (n + 1) (nI_clamp (by omega)) (nI_pos (by omega)) (by rw [hb_16n]; omega) dX12_come_22 (fun I_21 hI_21 => ?_)
  refine g_aload_n C 1 dX12_come_23 rfl rfl ?_
  refine g_dup C dX12_come_24 rfl ?_
  refine g_getI C K hL hk f_12_85 (v := nI (n + 1)) (by rw [hI_21, u2_k (κ := κ) (by rw [hk, hb_16k]; decide), hI_19]; exact u2_s) dX12_come_25 ?_
  refine g_iconst C (v := 1) dX12_come_28 (by decide) ?_
  refine g_iadd C (v := nI (n + 1 + 1)) dX12_come_29 (nI_add (n + 1) 1) ?_
  refine h_putI C K hL hk f_12_85 p_12_2 dX12_come_30 (fun I_22 hI_22 => ?_)
  refine g_iinc C dX12_come_33 (k := 0) (v := 8) rfl (by decide) (by decide) (lo2 := [(2, .int 8), (0, .ref t), (1, .int x)]) rfl ?_
  refine g_goto C (tgt := 3) dX12_come_36 (by decide) ?_
  refine g_iload_n C 0 dX12_come_3 rfl rfl ?_
  refine n_if_lt C (tgt := 39) (by decide) dX12_come_4 (by decide) ?_
  refine g_aload_n C 1 dX12_come_7 rfl rfl ?_
  refine g_getR C K hL hk f_12_7 hb_16 dX12_come_8 ?_
  refine g_aload_n C 1 dX12_come_11 rfl rfl ?_
  refine g_getI C K hL hk f_12_85 (v := nI (n + 1 + 1)) (by rw [hI_22]; exact u2_s) dX12_come_12 ?_
  refine g_iload_n C 2 dX12_come_15 rfl rfl ?_
  refine g_iload_n C 0 dX12_come_16 rfl rfl ?_
  obtain ⟨x_23, hx_23⟩ : ∃ z : Int32, (Int32.toUInt32 (x) >>> (Int32.toUInt32 (8) &&& Int32.toUInt32 31)).toInt32 = z := ⟨_, rfl⟩
  refine g_iushr C dX12_come_17 hx_23 ?_
  refine g_sipush C (v := 255) dX12_come_18 (by decide) ?_
  refine g_iand C (v := (x_23) &&& (255)) dX12_come_21 rfl ?_
  refine h_iast C K hb_16L hb_16k (n + 1 + 1) (nI_clamp (by omega)) (nI_pos (by omega)) (by rw [hb_16n]; omega) dX12_come_22 (fun I_24 hI_24 => ?_)
  refine g_aload_n C 1 dX12_come_23 rfl rfl ?_
  refine g_dup C dX12_come_24 rfl ?_
  refine g_getI C K hL hk f_12_85 (v := nI (n + 1 + 1)) (by rw [hI_24, u2_k (κ := κ) (by rw [hk, hb_16k]; decide), hI_22]; exact u2_s) dX12_come_25 ?_
  refine g_iconst C (v := 1) dX12_come_28 (by decide) ?_
  refine g_iadd C (v := nI (n + 1 + 1 + 1)) dX12_come_29 (nI_add (n + 1 + 1) 1) ?_
  refine h_putI C K hL hk f_12_85 p_12_2 dX12_come_30 (fun I_25 hI_25 => ?_)
  refine g_iinc C dX12_come_33 (k := 0) (v := 0) rfl (by decide) (by decide) (lo2 := [(2, .int 0), (0, .ref t), (1, .int x)]) rfl ?_
  refine g_goto C (tgt := 3) dX12_come_36 (by decide) ?_
  refine g_iload_n C 0 dX12_come_3 rfl rfl ?_
  refine n_if_lt C (tgt := 39) (by decide) dX12_come_4 (by decide) ?_
  refine g_aload_n C 1 dX12_come_7 rfl rfl ?_
  refine g_getR C K hL hk f_12_7 hb_16 dX12_come_8 ?_
  refine g_aload_n C 1 dX12_come_11 rfl rfl ?_
  refine g_getI C K hL hk f_12_85 (v := nI (n + 1 + 1 + 1)) (by rw [hI_25]; exact u2_s) dX12_come_12 ?_
  refine g_iload_n C 2 dX12_come_15 rfl rfl ?_
  refine g_iload_n C 0 dX12_come_16 rfl rfl ?_
  obtain ⟨x_26, hx_26⟩ : ∃ z : Int32, (Int32.toUInt32 (x) >>> (Int32.toUInt32 (0) &&& Int32.toUInt32 31)).toInt32 = z := ⟨_, rfl⟩
  refine g_iushr C dX12_come_17 hx_26 ?_
  refine g_sipush C (v := 255) dX12_come_18 (by decide) ?_
  refine g_iand C (v := (x_26) &&& (255)) dX12_come_21 rfl ?_
  refine h_iast C K hb_16L hb_16k (n + 1 + 1 + 1) (nI_clamp (by omega)) (nI_pos (by omega)) (by rw [hb_16n]; omega) dX12_come_22 (fun I_27 hI_27 => ?_)
  refine g_aload_n C 1 dX12_come_23 rfl rfl ?_
  refine g_dup C dX12_come_24 rfl ?_
  refine g_getI C K hL hk f_12_85 (v := nI (n + 1 + 1 + 1)) (by rw [hI_27, u2_k (κ := κ) (by rw [hk, hb_16k]; decide), hI_25]; exact u2_s) dX12_come_25 ?_
  refine g_iconst C (v := 1) dX12_come_28 (by decide) ?_
  refine g_iadd C (v := nI (n + 1 + 1 + 1 + 1)) dX12_come_29 (nI_add (n + 1 + 1 + 1) 1) ?_
  refine h_putI C K hL hk f_12_85 p_12_2 dX12_come_30 (fun I_28 hI_28 => ?_)
  refine g_iinc C dX12_come_33 (k := 0) (v := (-8)) rfl (by decide) (by decide) (lo2 := [(2, .int (-8)), (0, .ref t), (1, .int x)]) rfl ?_
  refine g_goto C (tgt := 3) dX12_come_36 (by decide) ?_
  refine g_iload_n C 0 dX12_come_3 rfl rfl ?_
  refine t_if_lt C (tgt := 39) (by decide) dX12_come_4 (by decide) ?_
  exact g_vret B K rfl (⟨rfl, by rw [hI_28]; exact u2_s⟩) dX12_come_39
end
section
/-! frames and zeros by kinds -/
def Fk (κ : Nat → Nat) (ks : List Nat) (I I2 : Nat → Nat → Int32) : Prop := ∀ b j, κ b ∉ ks → I2 b j = I b j
def Fj (κ : Nat → Nat) (ks : List Nat) (J J2 : Nat → Nat → Int64) : Prop := ∀ b j, κ b ∉ ks → J2 b j = J b j
def Zk (L : List Nat) (κ : Nat → Nat) (kd : Nat) (I : Nat → Nat → Int32) : Prop := ∀ b ∈ L, κ b = kd → ∀ j, I b j = 0
theorem Fk.rf {κ : Nat → Nat} {ks : List Nat} {I : Nat → Nat → Int32} : Fk κ ks I I := fun _ _ _ => rfl
theorem Fk.tr {κ : Nat → Nat} {ks ks2 : List Nat} {I I2 I3 : Nat → Nat → Int32} (h : Fk κ ks I I2) (h2 : Fk κ ks2 I2 I3) (hs : ∀ k ∈ ks2, k ∈ ks) : Fk κ ks I I3 := fun b j hb => (h2 b j (fun q => hb (hs _ q))).trans (h b j hb)
theorem Fk.wk {κ : Nat → Nat} {ks ks2 : List Nat} {I I2 : Nat → Nat → Int32} (h : Fk κ ks2 I I2) (hs : ∀ k ∈ ks2, k ∈ ks) : Fk κ ks I I2 := fun b j hb => h b j (fun q => hb (hs _ q))
theorem Fk.u2 {κ : Nat → Nat} {ks : List Nat} {I I2 I3 : Nat → Nat → Int32} {a k c : Nat} {v : Int32} (h : Fk κ ks I I2) (e : I3 = u2_ I2 a k v) (hk : κ a = c) (hc : c ∈ ks) : Fk κ ks I I3 := fun b j hb => by
  rw [e, u2_b (fun q => hb (by rw [q, hk]; exact hc))]; exact h b j hb
theorem Fk.k2 {κ : Nat → Nat} {ks : List Nat} {I I2 I3 : Nat → Nat → Int32} {a o n c : Nat} (h : Fk κ ks I I2) (e : I3 = k2_ I2 o a n) (hk : κ a = c) (hc : c ∈ ks) : Fk κ ks I I3 := fun b j hb => by
  rw [e, k2_b (fun q => hb (by rw [q, hk]; exact hc))]; exact h b j hb
theorem Fj.rf {κ : Nat → Nat} {ks : List Nat} {I : Nat → Nat → Int64} : Fj κ ks I I := fun _ _ _ => rfl
theorem Fj.tr {κ : Nat → Nat} {ks ks2 : List Nat} {I I2 I3 : Nat → Nat → Int64} (h : Fj κ ks I I2) (h2 : Fj κ ks2 I2 I3) (hs : ∀ k ∈ ks2, k ∈ ks) : Fj κ ks I I3 := fun b j hb => (h2 b j (fun q => hb (hs _ q))).trans (h b j hb)
theorem Fj.u2 {κ : Nat → Nat} {ks : List Nat} {I I2 I3 : Nat → Nat → Int64} {a k c : Nat} {v : Int64} (h : Fj κ ks I I2) (e : I3 = u2_ I2 a k v) (hk : κ a = c) (hc : c ∈ ks) : Fj κ ks I I3 := fun b j hb => by
  rw [e, u2_b (fun q => hb (by rw [q, hk]; exact hc))]; exact h b j hb
theorem Fj.k2 {κ : Nat → Nat} {ks : List Nat} {I I2 I3 : Nat → Nat → Int64} {a o n c : Nat} (h : Fj κ ks I I2) (e : I3 = k2_ I2 o a n) (hk : κ a = c) (hc : c ∈ ks) : Fj κ ks I I3 := fun b j hb => by
  rw [e, k2_b (fun q => hb (by rw [q, hk]; exact hc))]; exact h b j hb
theorem Zk.fk {L : List Nat} {κ : Nat → Nat} {kd : Nat} {ks : List Nat} {I I2 : Nat → Nat → Int32} (h : Zk L κ kd I) (hf : Fk κ ks I I2) (hk : kd ∉ ks) : Zk L κ kd I2 := fun b hb hkb j => by
  rw [hf b j (by rw [hkb]; exact hk)]; exact h b hb hkb j
theorem Zk.u2 {L : List Nat} {κ : Nat → Nat} {kd : Nat} {I I2 : Nat → Nat → Int32} {a k : Nat} {v : Int32} (h : Zk L κ kd I) (e : I2 = u2_ I a k v) (hv : v = 0) : Zk L κ kd I2 := fun b hb hkb j => by
  subst e hv
  by_cases hq : b = a ∧ j = k
  · simp [u2_, hq]
  · simp only [u2_, if_neg hq]; exact h b hb hkb j
theorem Zk.u2k {L : List Nat} {κ : Nat → Nat} {kd c : Nat} {I I2 : Nat → Nat → Int32} {a k : Nat} {v : Int32} (h : Zk L κ kd I) (e : I2 = u2_ I a k v) (hk : κ a = c) (hc : c ≠ kd) : Zk L κ kd I2 := fun b hb hkb j => by
  rw [e, u2_b (fun q => hc (by rw [← hk, ← q, hkb]))]; exact h b hb hkb j
theorem Zk.k2 {L : List Nat} {κ : Nat → Nat} {kd : Nat} {I I2 : Nat → Nat → Int32} {a o n : Nat} (h : Zk L κ kd I) (e : I2 = k2_ I o a n) (ho : o ∈ L) (hk : κ o = κ a) : Zk L κ kd I2 := fun b hb hkb j => by
  subst e
  by_cases hq : b = a ∧ j < n
  · simp only [k2_, if_pos hq]; exact h o ho (by rw [hk, ← hq.1]; exact hkb) j
  · simp only [k2_, if_neg hq]; exact h b hb hkb j
theorem Zk.k2k {L : List Nat} {κ : Nat → Nat} {kd c : Nat} {I I2 : Nat → Nat → Int32} {a o n : Nat} (h : Zk L κ kd I) (e : I2 = k2_ I o a n) (hk : κ a = c) (hc : c ≠ kd) : Zk L κ kd I2 := fun b hb hkb j => by
  rw [e, k2_b (fun q => hc (by rw [← hk, ← q, hkb]))]; exact h b hb hkb j
theorem w_cp : Cond.native arraycopyName ∈ GT ∧ Cond.static arraycopyName ∈ GT ∧ Cond.initialized "java/lang/System" ∈ GT := ⟨gt_in 758 (by decide +kernel) (by decide +kernel), gt_in 757 (by decide +kernel) (by decide +kernel), gt_in 123 (by decide +kernel) (by decide +kernel)⟩
section GL
variable {p : Program} {l : Launch} {e : Env} {Rm : Room} {s : State} {m : MethodId} {args : Array Value} {below : List Frame} {meth : Method} {c : Code} {cells slots : Nat} {Q : State → Prop}
variable {cc : ByteArray} {pc nL : Nat} {own : String} {D : va_G} {cy : Nat → ClassId} {A : Nat → Prop} {H0 : Heap} {L : List Nat} {κ ln : Nat → Nat} {R : Nat → Nat → Option Nat} {I : Nat → Nat → Int32} {J : Nat → Nat → Int64} {lo lo2 : List (Nat × Value)} {st : List Value}
theorem g_ldcw (C : CallFix p m c cc nL s args GT own) {idx : Nat} {v : Int32} (hc : Cond.constant own idx v ∈ GT) (hd : decode cc pc = .ok (.ldc_w idx, 3)) (kk : WG p l e Rm s m args below meth c nL cells slots Q D cy A H0 L κ ln R I J (pc + 3) lo (.int v :: st)) : WG p l e Rm s m args below meth c nL cells slots Q D cy A H0 L κ ln R I J pc lo st := fun H locs ls hP hS hl => lv_ldcw C.1 C.2.1 C.2.2.2.1 (C.2.2.2.2 _ hc) hd (kk H locs ls hP hS hl)
theorem g_mmin (C : CallFix p m c cc nL s args GT own) {idx : Nat} {x y v : Int32} (hlk : Cond.methodLink own idx Lib.Math.min.name ∈ GT) (hw : Cond.static Lib.Math.min.name ∈ GT ∧ Cond.initialized "java/lang/Math" ∈ GT ∧ Cond.code Lib.Math.min.name Lib.Math.min.code 2 (some .int) ∈ GT) (hfr : 1 ≤ Rm.frames) (hlc : (st.map fun v => v.category).sum + 13 ≤ Rm.locals) (hcs : cells ≤ Rm.cells ∧ slots ≤ Rm.slots) (hv : (if y < x then y else x) = v) (hd : decode cc pc = .ok (.invokestatic idx, 3)) (kk : WG p l e Rm s m args below meth c nL cells slots Q D cy A H0 L κ ln R I J (pc + 3) lo (.int v :: st)) : WG p l e Rm s m args below meth c nL cells slots Q D cy A H0 L κ ln R I J pc lo (.int y :: .int x :: st) := fun H locs ls hP hS hl => va_mmin C.1 C.2.1 (by rw [C.2.2.1]; exact hl.1.symm) C.2.2.2.1 (C.2.2.2.2 _ hlk) (C.2.2.2.2 _ hw.1) (C.2.2.2.2 _ hw.2.1) (C.2.2.2.2 _ hw.2.2) hfr hlc hcs.1 hcs.2 hd (hv ▸ kk H locs ls hP hS hl)
theorem g_mmax (C : CallFix p m c cc nL s args GT own) {idx : Nat} {x y v : Int32} (hlk : Cond.methodLink own idx Lib.Math.max.name ∈ GT) (hw : Cond.static Lib.Math.max.name ∈ GT ∧ Cond.initialized "java/lang/Math" ∈ GT ∧ Cond.code Lib.Math.max.name Lib.Math.max.code 2 (some .int) ∈ GT) (hfr : 1 ≤ Rm.frames) (hlc : (st.map fun v => v.category).sum + 13 ≤ Rm.locals) (hcs : cells ≤ Rm.cells ∧ slots ≤ Rm.slots) (hv : (if x < y then y else x) = v) (hd : decode cc pc = .ok (.invokestatic idx, 3)) (kk : WG p l e Rm s m args below meth c nL cells slots Q D cy A H0 L κ ln R I J (pc + 3) lo (.int v :: st)) : WG p l e Rm s m args below meth c nL cells slots Q D cy A H0 L κ ln R I J pc lo (.int y :: .int x :: st) := fun H locs ls hP hS hl => va_mmax C.1 C.2.1 (by rw [C.2.2.1]; exact hl.1.symm) C.2.2.2.1 (C.2.2.2.2 _ hlk) (C.2.2.2.2 _ hw.1) (C.2.2.2.2 _ hw.2.1) (C.2.2.2.2 _ hw.2.2) hfr hlc hcs.1 hcs.2 hd (hv ▸ kk H locs ls hP hS hl)
end GL
theorem w_min : Cond.static Lib.Math.min.name ∈ GT ∧ Cond.initialized "java/lang/Math" ∈ GT ∧ Cond.code Lib.Math.min.name Lib.Math.min.code 2 (some .int) ∈ GT := ⟨gt_in 663 (by decide +kernel) (by decide +kernel), gt_in 122 (by decide +kernel) (by decide +kernel), gt_in 664 (by decide +kernel) (by decide +kernel)⟩
theorem mw_10_70 : Cond.methodLink RX10 70 Lib.Math.min.name ∈ GT := gt_in 662 (by decide +kernel) (by decide +kernel)
theorem mw_5_31 : Cond.methodLink RX5 31 Lib.Math.min.name ∈ GT := gt_in 852 (by decide +kernel) (by decide +kernel)
theorem mw_1_100 : Cond.methodLink RX1 100 Lib.Math.min.name ∈ GT := gt_in 890 (by decide +kernel) (by decide +kernel)
theorem mw_8_53 : Cond.methodLink RX8 53 Lib.Math.min.name ∈ GT := gt_in 1069 (by decide +kernel) (by decide +kernel)
theorem w_max : Cond.static Lib.Math.max.name ∈ GT ∧ Cond.initialized "java/lang/Math" ∈ GT ∧ Cond.code Lib.Math.max.name Lib.Math.max.code 2 (some .int) ∈ GT := ⟨gt_in 982 (by decide +kernel) (by decide +kernel), gt_in 122 (by decide +kernel) (by decide +kernel), gt_in 983 (by decide +kernel) (by decide +kernel)⟩
theorem mw_4_84 : Cond.methodLink RX4 84 Lib.Math.max.name ∈ GT := gt_in 981 (by decide +kernel) (by decide +kernel)
theorem mw_8_47 : Cond.methodLink RX8 47 Lib.Math.max.name ∈ GT := gt_in 1068 (by decide +kernel) (by decide +kernel)
theorem ac_8_41 : Cond.methodLink RX8 41 arraycopyName ∈ GT := gt_in 756 (by decide +kernel) (by decide +kernel)
theorem ac_1_56 : Cond.methodLink RX1 56 arraycopyName ∈ GT := gt_in 763 (by decide +kernel) (by decide +kernel)
theorem k_Integer_265 : Cond.constant "java/lang/Integer" 265 1431655765 ∈ GT := gt_in 963 (by decide +kernel) (by decide +kernel)
theorem k_Integer_266 : Cond.constant "java/lang/Integer" 266 858993459 ∈ GT := gt_in 964 (by decide +kernel) (by decide +kernel)
theorem k_Integer_267 : Cond.constant "java/lang/Integer" 267 252645135 ∈ GT := gt_in 965 (by decide +kernel) (by decide +kernel)
theorem ac_4_52 : Cond.methodLink RX4 52 arraycopyName ∈ GT := gt_in 971 (by decide +kernel) (by decide +kernel)
theorem k_SecondHelpings_Course_129 : Cond.constant "SecondHelpings$Course" 129 1103515245 ∈ GT := gt_in 1121 (by decide +kernel) (by decide +kernel)
theorem ac_7_31 : Cond.methodLink RX7 31 arraycopyName ∈ GT := gt_in 1225 (by decide +kernel) (by decide +kernel)
theorem k_SecondHelpingsModel_308 : Cond.constant "SecondHelpingsModel" 308 1000000 ∈ GT := gt_in 1771 (by decide +kernel) (by decide +kernel)
theorem k_SecondHelpingsModel_354 : Cond.constant "SecondHelpingsModel" 354 1103515245 ∈ GT := gt_in 1882 (by decide +kernel) (by decide +kernel)
end
section
theorem dJ6_bitCount_0f7a4_0 : decode cJ6_bitCount_0f7a4 0 = .ok (.iload_n 0, 1) := by decide +kernel
theorem dJ6_bitCount_0f7a4_1 : decode cJ6_bitCount_0f7a4 1 = .ok (.iload_n 0, 1) := by decide +kernel
theorem dJ6_bitCount_0f7a4_2 : decode cJ6_bitCount_0f7a4 2 = .ok (.iconst 1, 1) := by decide +kernel
theorem dJ6_bitCount_0f7a4_3 : decode cJ6_bitCount_0f7a4 3 = .ok (.iushr, 1) := by decide +kernel
theorem dJ6_bitCount_0f7a4_4 : decode cJ6_bitCount_0f7a4 4 = .ok (.ldc_w 265, 3) := by decide +kernel
theorem dJ6_bitCount_0f7a4_7 : decode cJ6_bitCount_0f7a4 7 = .ok (.iand, 1) := by decide +kernel
theorem dJ6_bitCount_0f7a4_8 : decode cJ6_bitCount_0f7a4 8 = .ok (.isub, 1) := by decide +kernel
theorem dJ6_bitCount_0f7a4_9 : decode cJ6_bitCount_0f7a4 9 = .ok (.istore_n 0, 1) := by decide +kernel
theorem dJ6_bitCount_0f7a4_10 : decode cJ6_bitCount_0f7a4 10 = .ok (.iload_n 0, 1) := by decide +kernel
theorem dJ6_bitCount_0f7a4_11 : decode cJ6_bitCount_0f7a4 11 = .ok (.ldc_w 266, 3) := by decide +kernel
theorem dJ6_bitCount_0f7a4_14 : decode cJ6_bitCount_0f7a4 14 = .ok (.iand, 1) := by decide +kernel
theorem dJ6_bitCount_0f7a4_15 : decode cJ6_bitCount_0f7a4 15 = .ok (.iload_n 0, 1) := by decide +kernel
theorem dJ6_bitCount_0f7a4_16 : decode cJ6_bitCount_0f7a4 16 = .ok (.iconst 2, 1) := by decide +kernel
theorem dJ6_bitCount_0f7a4_17 : decode cJ6_bitCount_0f7a4 17 = .ok (.iushr, 1) := by decide +kernel
theorem dJ6_bitCount_0f7a4_18 : decode cJ6_bitCount_0f7a4 18 = .ok (.ldc_w 266, 3) := by decide +kernel
theorem dJ6_bitCount_0f7a4_21 : decode cJ6_bitCount_0f7a4 21 = .ok (.iand, 1) := by decide +kernel
theorem dJ6_bitCount_0f7a4_22 : decode cJ6_bitCount_0f7a4 22 = .ok (.iadd, 1) := by decide +kernel
theorem dJ6_bitCount_0f7a4_23 : decode cJ6_bitCount_0f7a4 23 = .ok (.istore_n 0, 1) := by decide +kernel
theorem dJ6_bitCount_0f7a4_24 : decode cJ6_bitCount_0f7a4 24 = .ok (.iload_n 0, 1) := by decide +kernel
theorem dJ6_bitCount_0f7a4_25 : decode cJ6_bitCount_0f7a4 25 = .ok (.iload_n 0, 1) := by decide +kernel
theorem dJ6_bitCount_0f7a4_26 : decode cJ6_bitCount_0f7a4 26 = .ok (.iconst 4, 1) := by decide +kernel
theorem dJ6_bitCount_0f7a4_27 : decode cJ6_bitCount_0f7a4 27 = .ok (.iushr, 1) := by decide +kernel
theorem dJ6_bitCount_0f7a4_28 : decode cJ6_bitCount_0f7a4 28 = .ok (.iadd, 1) := by decide +kernel
theorem dJ6_bitCount_0f7a4_29 : decode cJ6_bitCount_0f7a4 29 = .ok (.ldc_w 267, 3) := by decide +kernel
theorem dJ6_bitCount_0f7a4_32 : decode cJ6_bitCount_0f7a4 32 = .ok (.iand, 1) := by decide +kernel
theorem dJ6_bitCount_0f7a4_33 : decode cJ6_bitCount_0f7a4 33 = .ok (.istore_n 0, 1) := by decide +kernel
theorem dJ6_bitCount_0f7a4_34 : decode cJ6_bitCount_0f7a4 34 = .ok (.iload_n 0, 1) := by decide +kernel
theorem dJ6_bitCount_0f7a4_35 : decode cJ6_bitCount_0f7a4 35 = .ok (.iload_n 0, 1) := by decide +kernel
theorem dJ6_bitCount_0f7a4_36 : decode cJ6_bitCount_0f7a4 36 = .ok (.bipush 8, 2) := by decide +kernel
theorem dJ6_bitCount_0f7a4_38 : decode cJ6_bitCount_0f7a4 38 = .ok (.iushr, 1) := by decide +kernel
theorem dJ6_bitCount_0f7a4_39 : decode cJ6_bitCount_0f7a4 39 = .ok (.iadd, 1) := by decide +kernel
theorem dJ6_bitCount_0f7a4_40 : decode cJ6_bitCount_0f7a4 40 = .ok (.istore_n 0, 1) := by decide +kernel
theorem dJ6_bitCount_0f7a4_41 : decode cJ6_bitCount_0f7a4 41 = .ok (.iload_n 0, 1) := by decide +kernel
theorem dJ6_bitCount_0f7a4_42 : decode cJ6_bitCount_0f7a4 42 = .ok (.iload_n 0, 1) := by decide +kernel
theorem dJ6_bitCount_0f7a4_43 : decode cJ6_bitCount_0f7a4 43 = .ok (.bipush 16, 2) := by decide +kernel
theorem dJ6_bitCount_0f7a4_45 : decode cJ6_bitCount_0f7a4 45 = .ok (.iushr, 1) := by decide +kernel
theorem dJ6_bitCount_0f7a4_46 : decode cJ6_bitCount_0f7a4 46 = .ok (.iadd, 1) := by decide +kernel
theorem dJ6_bitCount_0f7a4_47 : decode cJ6_bitCount_0f7a4 47 = .ok (.istore_n 0, 1) := by decide +kernel
theorem dJ6_bitCount_0f7a4_48 : decode cJ6_bitCount_0f7a4 48 = .ok (.iload_n 0, 1) := by decide +kernel
theorem dJ6_bitCount_0f7a4_49 : decode cJ6_bitCount_0f7a4 49 = .ok (.bipush 63, 2) := by decide +kernel
theorem dJ6_bitCount_0f7a4_51 : decode cJ6_bitCount_0f7a4 51 = .ok (.iand, 1) := by decide +kernel
theorem dJ6_bitCount_0f7a4_52 : decode cJ6_bitCount_0f7a4 52 = .ok (.ireturn, 1) := by decide +kernel
theorem dX1_become_0 : decode cX1_become 0 = .ok (.aload_n 1, 1) := by decide +kernel
theorem dX1_become_1 : decode cX1_become 1 = .ok (.getfield 9, 3) := by decide +kernel
theorem dX1_become_4 : decode cX1_become 4 = .ok (.iconst 0, 1) := by decide +kernel
theorem dX1_become_5 : decode cX1_become 5 = .ok (.aload_n 0, 1) := by decide +kernel
theorem dX1_become_6 : decode cX1_become 6 = .ok (.getfield 9, 3) := by decide +kernel
theorem dX1_become_9 : decode cX1_become 9 = .ok (.iconst 0, 1) := by decide +kernel
theorem dX1_become_10 : decode cX1_become 10 = .ok (.bipush 6, 2) := by decide +kernel
theorem dX1_become_12 : decode cX1_become 12 = .ok (.invokestatic 56, 3) := by decide +kernel
theorem dX1_become_15 : decode cX1_become 15 = .ok (.aload_n 1, 1) := by decide +kernel
theorem dX1_become_16 : decode cX1_become 16 = .ok (.getfield 15, 3) := by decide +kernel
theorem dX1_become_19 : decode cX1_become 19 = .ok (.iconst 0, 1) := by decide +kernel
theorem dX1_become_20 : decode cX1_become 20 = .ok (.aload_n 0, 1) := by decide +kernel
theorem dX1_become_21 : decode cX1_become 21 = .ok (.getfield 15, 3) := by decide +kernel
theorem dX1_become_24 : decode cX1_become 24 = .ok (.iconst 0, 1) := by decide +kernel
theorem dX1_become_25 : decode cX1_become 25 = .ok (.bipush 42, 2) := by decide +kernel
theorem dX1_become_27 : decode cX1_become 27 = .ok (.invokestatic 56, 3) := by decide +kernel
theorem dX1_become_30 : decode cX1_become 30 = .ok (.aload_n 1, 1) := by decide +kernel
theorem dX1_become_31 : decode cX1_become 31 = .ok (.getfield 18, 3) := by decide +kernel
theorem dX1_become_34 : decode cX1_become 34 = .ok (.iconst 0, 1) := by decide +kernel
theorem dX1_become_35 : decode cX1_become 35 = .ok (.aload_n 0, 1) := by decide +kernel
theorem dX1_become_36 : decode cX1_become 36 = .ok (.getfield 18, 3) := by decide +kernel
theorem dX1_become_39 : decode cX1_become 39 = .ok (.iconst 0, 1) := by decide +kernel
theorem dX1_become_40 : decode cX1_become 40 = .ok (.bipush 7, 2) := by decide +kernel
theorem dX1_become_42 : decode cX1_become 42 = .ok (.invokestatic 56, 3) := by decide +kernel
theorem dX1_become_45 : decode cX1_become 45 = .ok (.aload_n 1, 1) := by decide +kernel
theorem dX1_become_46 : decode cX1_become 46 = .ok (.getfield 21, 3) := by decide +kernel
theorem dX1_become_49 : decode cX1_become 49 = .ok (.iconst 0, 1) := by decide +kernel
theorem dX1_become_50 : decode cX1_become 50 = .ok (.aload_n 0, 1) := by decide +kernel
theorem dX1_become_51 : decode cX1_become 51 = .ok (.getfield 21, 3) := by decide +kernel
theorem dX1_become_54 : decode cX1_become 54 = .ok (.iconst 0, 1) := by decide +kernel
theorem dX1_become_55 : decode cX1_become 55 = .ok (.bipush 7, 2) := by decide +kernel
theorem dX1_become_57 : decode cX1_become 57 = .ok (.invokestatic 56, 3) := by decide +kernel
theorem dX1_become_60 : decode cX1_become 60 = .ok (.aload_n 1, 1) := by decide +kernel
theorem dX1_become_61 : decode cX1_become 61 = .ok (.getfield 24, 3) := by decide +kernel
theorem dX1_become_64 : decode cX1_become 64 = .ok (.iconst 0, 1) := by decide +kernel
theorem dX1_become_65 : decode cX1_become 65 = .ok (.aload_n 0, 1) := by decide +kernel
theorem dX1_become_66 : decode cX1_become 66 = .ok (.getfield 24, 3) := by decide +kernel
theorem dX1_become_69 : decode cX1_become 69 = .ok (.iconst 0, 1) := by decide +kernel
theorem dX1_become_70 : decode cX1_become 70 = .ok (.bipush 7, 2) := by decide +kernel
theorem dX1_become_72 : decode cX1_become 72 = .ok (.invokestatic 56, 3) := by decide +kernel
theorem dX1_become_75 : decode cX1_become 75 = .ok (.aload_n 1, 1) := by decide +kernel
theorem dX1_become_76 : decode cX1_become 76 = .ok (.getfield 27, 3) := by decide +kernel
theorem dX1_become_79 : decode cX1_become 79 = .ok (.iconst 0, 1) := by decide +kernel
theorem dX1_become_80 : decode cX1_become 80 = .ok (.aload_n 0, 1) := by decide +kernel
theorem dX1_become_81 : decode cX1_become 81 = .ok (.getfield 27, 3) := by decide +kernel
theorem dX1_become_84 : decode cX1_become 84 = .ok (.iconst 0, 1) := by decide +kernel
theorem dX1_become_85 : decode cX1_become 85 = .ok (.bipush 7, 2) := by decide +kernel
theorem dX1_become_87 : decode cX1_become 87 = .ok (.invokestatic 56, 3) := by decide +kernel
theorem dX1_become_90 : decode cX1_become 90 = .ok (.aload_n 0, 1) := by decide +kernel
theorem dX1_become_91 : decode cX1_become 91 = .ok (.aload_n 1, 1) := by decide +kernel
theorem dX1_become_92 : decode cX1_become 92 = .ok (.getfield 30, 3) := by decide +kernel
theorem dX1_become_95 : decode cX1_become 95 = .ok (.putfield 30, 3) := by decide +kernel
theorem dX1_become_98 : decode cX1_become 98 = .ok (.aload_n 0, 1) := by decide +kernel
theorem dX1_become_99 : decode cX1_become 99 = .ok (.aload_n 1, 1) := by decide +kernel
theorem dX1_become_100 : decode cX1_become 100 = .ok (.getfield 34, 3) := by decide +kernel
theorem dX1_become_103 : decode cX1_become 103 = .ok (.putfield 34, 3) := by decide +kernel
theorem dX1_become_106 : decode cX1_become 106 = .ok (.aload_n 0, 1) := by decide +kernel
theorem dX1_become_107 : decode cX1_become 107 = .ok (.aload_n 1, 1) := by decide +kernel
theorem dX1_become_108 : decode cX1_become 108 = .ok (.getfield 37, 3) := by decide +kernel
theorem dX1_become_111 : decode cX1_become 111 = .ok (.putfield 37, 3) := by decide +kernel
theorem dX1_become_114 : decode cX1_become 114 = .ok (.aload_n 0, 1) := by decide +kernel
theorem dX1_become_115 : decode cX1_become 115 = .ok (.aload_n 1, 1) := by decide +kernel
theorem dX1_become_116 : decode cX1_become 116 = .ok (.getfield 40, 3) := by decide +kernel
theorem dX1_become_119 : decode cX1_become 119 = .ok (.putfield 40, 3) := by decide +kernel
theorem dX1_become_122 : decode cX1_become 122 = .ok (.aload_n 0, 1) := by decide +kernel
theorem dX1_become_123 : decode cX1_become 123 = .ok (.aload_n 1, 1) := by decide +kernel
theorem dX1_become_124 : decode cX1_become 124 = .ok (.getfield 43, 3) := by decide +kernel
theorem dX1_become_127 : decode cX1_become 127 = .ok (.putfield 43, 3) := by decide +kernel
theorem dX1_become_130 : decode cX1_become 130 = .ok (.aload_n 0, 1) := by decide +kernel
theorem dX1_become_131 : decode cX1_become 131 = .ok (.aload_n 1, 1) := by decide +kernel
theorem dX1_become_132 : decode cX1_become 132 = .ok (.getfield 46, 3) := by decide +kernel
theorem dX1_become_135 : decode cX1_become 135 = .ok (.putfield 46, 3) := by decide +kernel
theorem dX1_become_138 : decode cX1_become 138 = .ok (.return_, 1) := by decide +kernel
theorem dX1_forget_0 : decode cX1_forget 0 = .ok (.iconst 0, 1) := by decide +kernel
theorem dX1_forget_1 : decode cX1_forget 1 = .ok (.istore_n 1, 1) := by decide +kernel
theorem dX1_forget_2 : decode cX1_forget 2 = .ok (.iload_n 1, 1) := by decide +kernel
theorem dX1_forget_3 : decode cX1_forget 3 = .ok (.bipush 6, 2) := by decide +kernel
theorem dX1_forget_5 : decode cX1_forget 5 = .ok (.if_icmp .ge 16, 3) := by decide +kernel
theorem dX1_forget_8 : decode cX1_forget 8 = .ok (.aload_n 0, 1) := by decide +kernel
theorem dX1_forget_9 : decode cX1_forget 9 = .ok (.getfield 9, 3) := by decide +kernel
theorem dX1_forget_12 : decode cX1_forget 12 = .ok (.iload_n 1, 1) := by decide +kernel
theorem dX1_forget_13 : decode cX1_forget 13 = .ok (.iconst 0, 1) := by decide +kernel
theorem dX1_forget_14 : decode cX1_forget 14 = .ok (.iastore, 1) := by decide +kernel
theorem dX1_forget_15 : decode cX1_forget 15 = .ok (.iinc 1 1, 3) := by decide +kernel
theorem dX1_forget_18 : decode cX1_forget 18 = .ok (.goto (-16), 3) := by decide +kernel
theorem dX1_forget_21 : decode cX1_forget 21 = .ok (.iconst 0, 1) := by decide +kernel
theorem dX1_forget_22 : decode cX1_forget 22 = .ok (.istore_n 1, 1) := by decide +kernel
theorem dX1_forget_23 : decode cX1_forget 23 = .ok (.iload_n 1, 1) := by decide +kernel
theorem dX1_forget_24 : decode cX1_forget 24 = .ok (.bipush 42, 2) := by decide +kernel
theorem dX1_forget_26 : decode cX1_forget 26 = .ok (.if_icmp .ge 16, 3) := by decide +kernel
theorem dX1_forget_29 : decode cX1_forget 29 = .ok (.aload_n 0, 1) := by decide +kernel
theorem dX1_forget_30 : decode cX1_forget 30 = .ok (.getfield 15, 3) := by decide +kernel
theorem dX1_forget_33 : decode cX1_forget 33 = .ok (.iload_n 1, 1) := by decide +kernel
theorem dX1_forget_34 : decode cX1_forget 34 = .ok (.iconst 0, 1) := by decide +kernel
theorem dX1_forget_35 : decode cX1_forget 35 = .ok (.iastore, 1) := by decide +kernel
theorem dX1_forget_36 : decode cX1_forget 36 = .ok (.iinc 1 1, 3) := by decide +kernel
theorem dX1_forget_39 : decode cX1_forget 39 = .ok (.goto (-16), 3) := by decide +kernel
theorem dX1_forget_42 : decode cX1_forget 42 = .ok (.iconst 0, 1) := by decide +kernel
theorem dX1_forget_43 : decode cX1_forget 43 = .ok (.istore_n 1, 1) := by decide +kernel
theorem dX1_forget_44 : decode cX1_forget 44 = .ok (.iload_n 1, 1) := by decide +kernel
theorem dX1_forget_45 : decode cX1_forget 45 = .ok (.bipush 7, 2) := by decide +kernel
theorem dX1_forget_47 : decode cX1_forget 47 = .ok (.if_icmp .ge 37, 3) := by decide +kernel
theorem dX1_forget_50 : decode cX1_forget 50 = .ok (.aload_n 0, 1) := by decide +kernel
theorem dX1_forget_51 : decode cX1_forget 51 = .ok (.getfield 18, 3) := by decide +kernel
theorem dX1_forget_54 : decode cX1_forget 54 = .ok (.iload_n 1, 1) := by decide +kernel
theorem dX1_forget_55 : decode cX1_forget 55 = .ok (.iconst 0, 1) := by decide +kernel
theorem dX1_forget_56 : decode cX1_forget 56 = .ok (.iastore, 1) := by decide +kernel
theorem dX1_forget_57 : decode cX1_forget 57 = .ok (.aload_n 0, 1) := by decide +kernel
theorem dX1_forget_58 : decode cX1_forget 58 = .ok (.getfield 21, 3) := by decide +kernel
theorem dX1_forget_61 : decode cX1_forget 61 = .ok (.iload_n 1, 1) := by decide +kernel
theorem dX1_forget_62 : decode cX1_forget 62 = .ok (.iconst 0, 1) := by decide +kernel
theorem dX1_forget_63 : decode cX1_forget 63 = .ok (.iastore, 1) := by decide +kernel
theorem dX1_forget_64 : decode cX1_forget 64 = .ok (.aload_n 0, 1) := by decide +kernel
theorem dX1_forget_65 : decode cX1_forget 65 = .ok (.getfield 24, 3) := by decide +kernel
theorem dX1_forget_68 : decode cX1_forget 68 = .ok (.iload_n 1, 1) := by decide +kernel
theorem dX1_forget_69 : decode cX1_forget 69 = .ok (.iconst 0, 1) := by decide +kernel
theorem dX1_forget_70 : decode cX1_forget 70 = .ok (.iastore, 1) := by decide +kernel
theorem dX1_forget_71 : decode cX1_forget 71 = .ok (.aload_n 0, 1) := by decide +kernel
theorem dX1_forget_72 : decode cX1_forget 72 = .ok (.getfield 27, 3) := by decide +kernel
theorem dX1_forget_75 : decode cX1_forget 75 = .ok (.iload_n 1, 1) := by decide +kernel
theorem dX1_forget_76 : decode cX1_forget 76 = .ok (.iconst 0, 1) := by decide +kernel
theorem dX1_forget_77 : decode cX1_forget 77 = .ok (.iastore, 1) := by decide +kernel
theorem dX1_forget_78 : decode cX1_forget 78 = .ok (.iinc 1 1, 3) := by decide +kernel
theorem dX1_forget_81 : decode cX1_forget 81 = .ok (.goto (-37), 3) := by decide +kernel
theorem dX1_forget_84 : decode cX1_forget 84 = .ok (.aload_n 0, 1) := by decide +kernel
theorem dX1_forget_85 : decode cX1_forget 85 = .ok (.iconst 0, 1) := by decide +kernel
theorem dX1_forget_86 : decode cX1_forget 86 = .ok (.putfield 30, 3) := by decide +kernel
theorem dX1_forget_89 : decode cX1_forget 89 = .ok (.aload_n 0, 1) := by decide +kernel
theorem dX1_forget_90 : decode cX1_forget 90 = .ok (.iconst 0, 1) := by decide +kernel
theorem dX1_forget_91 : decode cX1_forget 91 = .ok (.putfield 34, 3) := by decide +kernel
theorem dX1_forget_94 : decode cX1_forget 94 = .ok (.aload_n 0, 1) := by decide +kernel
theorem dX1_forget_95 : decode cX1_forget 95 = .ok (.iconst 0, 1) := by decide +kernel
theorem dX1_forget_96 : decode cX1_forget 96 = .ok (.putfield 37, 3) := by decide +kernel
theorem dX1_forget_99 : decode cX1_forget 99 = .ok (.aload_n 0, 1) := by decide +kernel
theorem dX1_forget_100 : decode cX1_forget 100 = .ok (.iconst 0, 1) := by decide +kernel
theorem dX1_forget_101 : decode cX1_forget 101 = .ok (.putfield 40, 3) := by decide +kernel
theorem dX1_forget_104 : decode cX1_forget 104 = .ok (.aload_n 0, 1) := by decide +kernel
theorem dX1_forget_105 : decode cX1_forget 105 = .ok (.iconst 0, 1) := by decide +kernel
theorem dX1_forget_106 : decode cX1_forget 106 = .ok (.putfield 43, 3) := by decide +kernel
theorem dX1_forget_109 : decode cX1_forget 109 = .ok (.aload_n 0, 1) := by decide +kernel
theorem dX1_forget_110 : decode cX1_forget 110 = .ok (.iconst 0, 1) := by decide +kernel
theorem dX1_forget_111 : decode cX1_forget 111 = .ok (.putfield 46, 3) := by decide +kernel
theorem dX1_forget_114 : decode cX1_forget 114 = .ok (.return_, 1) := by decide +kernel
theorem dX8_become_0 : decode cX8_become 0 = .ok (.aload_n 1, 1) := by decide +kernel
theorem dX8_become_1 : decode cX8_become 1 = .ok (.getfield 9, 3) := by decide +kernel
theorem dX8_become_4 : decode cX8_become 4 = .ok (.iconst 0, 1) := by decide +kernel
theorem dX8_become_5 : decode cX8_become 5 = .ok (.aload_n 0, 1) := by decide +kernel
theorem dX8_become_6 : decode cX8_become 6 = .ok (.getfield 9, 3) := by decide +kernel
theorem dX8_become_9 : decode cX8_become 9 = .ok (.iconst 0, 1) := by decide +kernel
theorem dX8_become_10 : decode cX8_become 10 = .ok (.bipush 7, 2) := by decide +kernel
theorem dX8_become_12 : decode cX8_become 12 = .ok (.invokestatic 41, 3) := by decide +kernel
theorem dX8_become_15 : decode cX8_become 15 = .ok (.aload_n 1, 1) := by decide +kernel
theorem dX8_become_16 : decode cX8_become 16 = .ok (.getfield 15, 3) := by decide +kernel
theorem dX8_become_19 : decode cX8_become 19 = .ok (.iconst 0, 1) := by decide +kernel
theorem dX8_become_20 : decode cX8_become 20 = .ok (.aload_n 0, 1) := by decide +kernel
theorem dX8_become_21 : decode cX8_become 21 = .ok (.getfield 15, 3) := by decide +kernel
theorem dX8_become_24 : decode cX8_become 24 = .ok (.iconst 0, 1) := by decide +kernel
theorem dX8_become_25 : decode cX8_become 25 = .ok (.bipush 7, 2) := by decide +kernel
theorem dX8_become_27 : decode cX8_become 27 = .ok (.invokestatic 41, 3) := by decide +kernel
theorem dX8_become_30 : decode cX8_become 30 = .ok (.aload_n 1, 1) := by decide +kernel
theorem dX8_become_31 : decode cX8_become 31 = .ok (.getfield 19, 3) := by decide +kernel
theorem dX8_become_34 : decode cX8_become 34 = .ok (.iconst 0, 1) := by decide +kernel
theorem dX8_become_35 : decode cX8_become 35 = .ok (.aload_n 0, 1) := by decide +kernel
theorem dX8_become_36 : decode cX8_become 36 = .ok (.getfield 19, 3) := by decide +kernel
theorem dX8_become_39 : decode cX8_become 39 = .ok (.iconst 0, 1) := by decide +kernel
theorem dX8_become_40 : decode cX8_become 40 = .ok (.bipush 7, 2) := by decide +kernel
theorem dX8_become_42 : decode cX8_become 42 = .ok (.invokestatic 41, 3) := by decide +kernel
theorem dX8_become_45 : decode cX8_become 45 = .ok (.aload_n 1, 1) := by decide +kernel
theorem dX8_become_46 : decode cX8_become 46 = .ok (.getfield 22, 3) := by decide +kernel
theorem dX8_become_49 : decode cX8_become 49 = .ok (.iconst 0, 1) := by decide +kernel
theorem dX8_become_50 : decode cX8_become 50 = .ok (.aload_n 0, 1) := by decide +kernel
theorem dX8_become_51 : decode cX8_become 51 = .ok (.getfield 22, 3) := by decide +kernel
theorem dX8_become_54 : decode cX8_become 54 = .ok (.iconst 0, 1) := by decide +kernel
theorem dX8_become_55 : decode cX8_become 55 = .ok (.bipush 6, 2) := by decide +kernel
theorem dX8_become_57 : decode cX8_become 57 = .ok (.invokestatic 41, 3) := by decide +kernel
theorem dX8_become_60 : decode cX8_become 60 = .ok (.aload_n 1, 1) := by decide +kernel
theorem dX8_become_61 : decode cX8_become 61 = .ok (.getfield 25, 3) := by decide +kernel
theorem dX8_become_64 : decode cX8_become 64 = .ok (.iconst 0, 1) := by decide +kernel
theorem dX8_become_65 : decode cX8_become 65 = .ok (.aload_n 0, 1) := by decide +kernel
theorem dX8_become_66 : decode cX8_become 66 = .ok (.getfield 25, 3) := by decide +kernel
theorem dX8_become_69 : decode cX8_become 69 = .ok (.iconst 0, 1) := by decide +kernel
theorem dX8_become_70 : decode cX8_become 70 = .ok (.bipush 6, 2) := by decide +kernel
theorem dX8_become_72 : decode cX8_become 72 = .ok (.invokestatic 41, 3) := by decide +kernel
theorem dX8_become_75 : decode cX8_become 75 = .ok (.aload_n 0, 1) := by decide +kernel
theorem dX8_become_76 : decode cX8_become 76 = .ok (.aload_n 1, 1) := by decide +kernel
theorem dX8_become_77 : decode cX8_become 77 = .ok (.getfield 28, 3) := by decide +kernel
theorem dX8_become_80 : decode cX8_become 80 = .ok (.putfield 28, 3) := by decide +kernel
theorem dX8_become_83 : decode cX8_become 83 = .ok (.aload_n 0, 1) := by decide +kernel
theorem dX8_become_84 : decode cX8_become 84 = .ok (.aload_n 1, 1) := by decide +kernel
theorem dX8_become_85 : decode cX8_become 85 = .ok (.getfield 32, 3) := by decide +kernel
theorem dX8_become_88 : decode cX8_become 88 = .ok (.putfield 32, 3) := by decide +kernel
theorem dX8_become_91 : decode cX8_become 91 = .ok (.aload_n 0, 1) := by decide +kernel
theorem dX8_become_92 : decode cX8_become 92 = .ok (.aload_n 1, 1) := by decide +kernel
theorem dX8_become_93 : decode cX8_become 93 = .ok (.getfield 35, 3) := by decide +kernel
theorem dX8_become_96 : decode cX8_become 96 = .ok (.putfield 35, 3) := by decide +kernel
theorem dX8_become_99 : decode cX8_become 99 = .ok (.aload_n 0, 1) := by decide +kernel
theorem dX8_become_100 : decode cX8_become 100 = .ok (.aload_n 1, 1) := by decide +kernel
theorem dX8_become_101 : decode cX8_become 101 = .ok (.getfield 38, 3) := by decide +kernel
theorem dX8_become_104 : decode cX8_become 104 = .ok (.putfield 38, 3) := by decide +kernel
theorem dX8_become_107 : decode cX8_become 107 = .ok (.return_, 1) := by decide +kernel
theorem dX8_everybody_0 : decode cX8_everybody 0 = .ok (.iconst 1, 1) := by decide +kernel
theorem dX8_everybody_1 : decode cX8_everybody 1 = .ok (.aload_n 0, 1) := by decide +kernel
theorem dX8_everybody_2 : decode cX8_everybody 2 = .ok (.getfield 28, 3) := by decide +kernel
theorem dX8_everybody_5 : decode cX8_everybody 5 = .ok (.ishl, 1) := by decide +kernel
theorem dX8_everybody_6 : decode cX8_everybody 6 = .ok (.iconst 1, 1) := by decide +kernel
theorem dX8_everybody_7 : decode cX8_everybody 7 = .ok (.isub, 1) := by decide +kernel
theorem dX8_everybody_8 : decode cX8_everybody 8 = .ok (.ireturn, 1) := by decide +kernel
theorem dX8_forget_0 : decode cX8_forget 0 = .ok (.aload_n 0, 1) := by decide +kernel
theorem dX8_forget_1 : decode cX8_forget 1 = .ok (.iconst 0, 1) := by decide +kernel
theorem dX8_forget_2 : decode cX8_forget 2 = .ok (.putfield 28, 3) := by decide +kernel
theorem dX8_forget_5 : decode cX8_forget 5 = .ok (.aload_n 0, 1) := by decide +kernel
theorem dX8_forget_6 : decode cX8_forget 6 = .ok (.iconst 0, 1) := by decide +kernel
theorem dX8_forget_7 : decode cX8_forget 7 = .ok (.putfield 32, 3) := by decide +kernel
theorem dX8_forget_10 : decode cX8_forget 10 = .ok (.aload_n 0, 1) := by decide +kernel
theorem dX8_forget_11 : decode cX8_forget 11 = .ok (.iconst 0, 1) := by decide +kernel
theorem dX8_forget_12 : decode cX8_forget 12 = .ok (.putfield 35, 3) := by decide +kernel
theorem dX8_forget_15 : decode cX8_forget 15 = .ok (.aload_n 0, 1) := by decide +kernel
theorem dX8_forget_16 : decode cX8_forget 16 = .ok (.iconst 0, 1) := by decide +kernel
theorem dX8_forget_17 : decode cX8_forget 17 = .ok (.putfield 38, 3) := by decide +kernel
theorem dX8_forget_20 : decode cX8_forget 20 = .ok (.return_, 1) := by decide +kernel
set_option maxRecDepth 100000 in
set_option maxHeartbeats 4000000 in
theorem c_bitCount0 {l : Launch} {D : va_G} {cy : Nat → ClassId} {L : List Nat} {κ ln : Nat → Nat} {R : Nat → Nat → Option Nat} {I : Nat → Nat → Int32} {J : Nat → Nat → Int64}  : CtI l yJ6_bitCount_0f7a4 cJ6_bitCount_0f7a4 1 (some .int) { frames := 0, cells := 0, slots := 0, locals := 0 } D cy L κ ln R I J [.int 0] (fun r I2 J2 => I = I2 ∧ J = J2 ∧ r = 0) := by
  refine CtI.of (by decide +kernel) (Nat.le_of_ble_eq_true rfl) ?_
  intro p e s m below meth c B K
  have C := B.1
  refine g_lo (is := [0]) (lo2 := [(0, .int 0)]) rfl ?_
  refine g_iload_n C 0 dJ6_bitCount_0f7a4_0 rfl rfl ?_
  refine g_iload_n C 0 dJ6_bitCount_0f7a4_1 rfl rfl ?_
  refine g_iconst C (v := 1) dJ6_bitCount_0f7a4_2 (by decide) ?_
  refine g_iushr C (v := 0) dJ6_bitCount_0f7a4_3 (by decide) ?_
  refine g_ldcw C k_Integer_265 dJ6_bitCount_0f7a4_4 ?_
  refine g_iand C (v := 0) dJ6_bitCount_0f7a4_7 (by decide) ?_
  refine g_isub C (v := 0) dJ6_bitCount_0f7a4_8 (by decide) ?_
  refine g_istore_n C dJ6_bitCount_0f7a4_9 rfl (by decide) (lo2 := [(0, .int 0)]) rfl ?_
  refine g_iload_n C 0 dJ6_bitCount_0f7a4_10 rfl rfl ?_
  refine g_ldcw C k_Integer_266 dJ6_bitCount_0f7a4_11 ?_
  refine g_iand C (v := 0) dJ6_bitCount_0f7a4_14 (by decide) ?_
  refine g_iload_n C 0 dJ6_bitCount_0f7a4_15 rfl rfl ?_
  refine g_iconst C (v := 2) dJ6_bitCount_0f7a4_16 (by decide) ?_
  refine g_iushr C (v := 0) dJ6_bitCount_0f7a4_17 (by decide) ?_
  refine g_ldcw C k_Integer_266 dJ6_bitCount_0f7a4_18 ?_
  refine g_iand C (v := 0) dJ6_bitCount_0f7a4_21 (by decide) ?_
  refine g_iadd C (v := 0) dJ6_bitCount_0f7a4_22 (by decide) ?_
  refine g_istore_n C dJ6_bitCount_0f7a4_23 rfl (by decide) (lo2 := [(0, .int 0)]) rfl ?_
  refine g_iload_n C 0 dJ6_bitCount_0f7a4_24 rfl rfl ?_
  refine g_iload_n C 0 dJ6_bitCount_0f7a4_25 rfl rfl ?_
  refine g_iconst C (v := 4) dJ6_bitCount_0f7a4_26 (by decide) ?_
  refine g_iushr C (v := 0) dJ6_bitCount_0f7a4_27 (by decide) ?_
  refine g_iadd C (v := 0) dJ6_bitCount_0f7a4_28 (by decide) ?_
  refine g_ldcw C k_Integer_267 dJ6_bitCount_0f7a4_29 ?_
  refine g_iand C (v := 0) dJ6_bitCount_0f7a4_32 (by decide) ?_
  refine g_istore_n C dJ6_bitCount_0f7a4_33 rfl (by decide) (lo2 := [(0, .int 0)]) rfl ?_
  refine g_iload_n C 0 dJ6_bitCount_0f7a4_34 rfl rfl ?_
  refine g_iload_n C 0 dJ6_bitCount_0f7a4_35 rfl rfl ?_
  refine g_bipush C (v := 8) dJ6_bitCount_0f7a4_36 (by decide) ?_
  refine g_iushr C (v := 0) dJ6_bitCount_0f7a4_38 (by decide) ?_
  refine g_iadd C (v := 0) dJ6_bitCount_0f7a4_39 (by decide) ?_
  refine g_istore_n C dJ6_bitCount_0f7a4_40 rfl (by decide) (lo2 := [(0, .int 0)]) rfl ?_
  refine g_iload_n C 0 dJ6_bitCount_0f7a4_41 rfl rfl ?_
  refine g_iload_n C 0 dJ6_bitCount_0f7a4_42 rfl rfl ?_
  refine g_bipush C (v := 16) dJ6_bitCount_0f7a4_43 (by decide) ?_
  refine g_iushr C (v := 0) dJ6_bitCount_0f7a4_45 (by decide) ?_
  refine g_iadd C (v := 0) dJ6_bitCount_0f7a4_46 (by decide) ?_
  refine g_istore_n C dJ6_bitCount_0f7a4_47 rfl (by decide) (lo2 := [(0, .int 0)]) rfl ?_
  refine g_iload_n C 0 dJ6_bitCount_0f7a4_48 rfl rfl ?_
  refine g_bipush C (v := 63) dJ6_bitCount_0f7a4_49 (by decide) ?_
  refine g_iand C (v := 0) dJ6_bitCount_0f7a4_51 (by decide) ?_
  exact g_zret (ty := .int) (r := 0) B K rfl rfl (⟨rfl, rfl, rfl⟩) dJ6_bitCount_0f7a4_52
set_option maxRecDepth 100000 in
set_option maxHeartbeats 4000000 in
theorem c_Table_everybody0 {l : Launch} {D : va_G} {cy : Nat → ClassId} {L : List Nat} {κ ln : Nat → Nat} {R : Nat → Nat → Option Nat} {I : Nat → Nat → Int32} {J : Nat → Nat → Int64} {a : Nat} (hLa : a ∈ L) (hka : κ a = 8) (h5 : I a 5 = 0) : CtI l yX8_everybody cX8_everybody 1 (some .int) { frames := 0, cells := 0, slots := 0, locals := 0 } D cy L κ ln R I J [.ref a] (fun r I2 J2 => I = I2 ∧ J = J2 ∧ r = 0) := by
  refine CtI.of (by decide +kernel) (Nat.le_of_ble_eq_true rfl) ?_
  intro p e s m below meth c B K
  have C := B.1
  refine g_lo (is := [0]) (lo2 := [(0, .ref a)]) rfl ?_
  refine g_iconst C (v := 1) dX8_everybody_0 (by decide) ?_
  refine g_aload_n C 0 dX8_everybody_1 rfl rfl ?_
  refine g_getI C K hLa hka f_8_28 (v := 0) (h5) dX8_everybody_2 ?_
  refine g_ishl C (v := 1) dX8_everybody_5 (by decide) ?_
  refine g_iconst C (v := 1) dX8_everybody_6 (by decide) ?_
  refine g_isub C (v := 0) dX8_everybody_7 (by decide) ?_
  exact g_zret (ty := .int) (r := 0) B K rfl rfl (⟨rfl, rfl, rfl⟩) dX8_everybody_8
set_option maxRecDepth 100000 in
set_option maxHeartbeats 4000000 in
theorem c_Table_forget {l : Launch} {D : va_G} {cy : Nat → ClassId} {L : List Nat} {κ ln : Nat → Nat} {R : Nat → Nat → Option Nat} {I : Nat → Nat → Int32} {J : Nat → Nat → Int64} {a : Nat} (hLa : a ∈ L) (hka : κ a = 8) (Z8 : Zk L κ 8 I) : CtV l yX8_forget cX8_forget 1 none { frames := 0, cells := 0, slots := 0, locals := 0 } D cy L κ ln R I J [.ref a] (fun I2 J2 => J = J2 ∧ Fk κ [8] I I2 ∧ Zk L κ 8 I2) := by
  refine CtV.of (by decide +kernel) (Nat.le_of_ble_eq_true rfl) ?_
  intro p e s m below meth c B K
  have C := B.1
  refine g_lo (is := [0]) (lo2 := [(0, .ref a)]) rfl ?_
  refine g_aload_n C 0 dX8_forget_0 rfl rfl ?_
  refine g_iconst C (v := 0) dX8_forget_1 (by decide) ?_
  refine h_putI C K hLa hka f_8_28 p_8_5 dX8_forget_2 (fun I_29 hI_29 => ?_)
  refine g_aload_n C 0 dX8_forget_5 rfl rfl ?_
  refine g_iconst C (v := 0) dX8_forget_6 (by decide) ?_
  refine h_putI C K hLa hka f_8_32 p_8_6 dX8_forget_7 (fun I_30 hI_30 => ?_)
  refine g_aload_n C 0 dX8_forget_10 rfl rfl ?_
  refine g_iconst C (v := 0) dX8_forget_11 (by decide) ?_
  refine h_putI C K hLa hka f_8_35 p_8_7 dX8_forget_12 (fun I_31 hI_31 => ?_)
  refine g_aload_n C 0 dX8_forget_15 rfl rfl ?_
  refine g_iconst C (v := 0) dX8_forget_16 (by decide) ?_
  refine h_putI C K hLa hka f_8_38 p_8_8 dX8_forget_17 (fun I_32 hI_32 => ?_)
  exact g_vret B K rfl (⟨rfl, ((((Fk.rf).u2 hI_29 hka (by decide)).u2 hI_30 hka (by decide)).u2 hI_31 hka (by decide)).u2 hI_32 hka (by decide), ((((Z8).u2 hI_29 rfl).u2 hI_30 rfl).u2 hI_31 rfl).u2 hI_32 rfl⟩) dX8_forget_20
set_option maxRecDepth 100000 in
set_option maxHeartbeats 4000000 in
theorem c_Table_become {l : Launch} {D : va_G} {cy : Nat → ClassId} {L : List Nat} {κ ln : Nat → Nat} {R : Nat → Nat → Option Nat} {I : Nat → Nat → Int32} {J : Nat → Nat → Int64} {ow : Nat → Nat × Nat} (W9 : ∀ a ∈ L, Shp L κ ln R ow a) {a : Nat} (hLa : a ∈ L) (hka : κ a = 8) {b : Nat} (hLb : b ∈ L) (hkb : κ b = 8) (Z8 : Zk L κ 8 I) : CtV l yX8_become cX8_become 2 none { frames := 1, cells := 0, slots := 0, locals := 100 } D cy L κ ln R I J [.ref a, .ref b] (fun I2 J2 => Fj κ [15] J J2 ∧ Fk κ [8, 14] I I2 ∧ Zk L κ 8 I2) := by
  refine CtV.of (by decide +kernel) (Nat.le_of_ble_eq_true rfl) ?_
  intro p e s m below meth c B K
  have C := B.1
  refine g_lo (is := [0, 1]) (lo2 := [(0, .ref a), (1, .ref b)]) rfl ?_
  refine g_aload_n C 1 dX8_become_0 rfl rfl ?_
  obtain ⟨b_33, hb_33, hb_33L, hb_33k, hb_33n, hb_33o⟩ := shp_a (W9 b hLb) hkb 0 15 7 rfl (by decide)
  refine g_getR C K hLb hkb f_8_9 hb_33 dX8_become_1 ?_
  refine g_iconst C (v := 0) dX8_become_4 (by decide) ?_
  refine g_aload_n C 0 dX8_become_5 rfl rfl ?_
  obtain ⟨b_34, hb_34, hb_34L, hb_34k, hb_34n, hb_34o⟩ := shp_a (W9 a hLa) hka 0 15 7 rfl (by decide)
  refine g_getR C K hLa hka f_8_9 hb_34 dX8_become_6 ?_
  refine g_iconst C (v := 0) dX8_become_9 (by decide) ?_
  refine g_bipush C (v := 7) dX8_become_10 (by decide) ?_
  refine h_copyJ C K hb_34L hb_34k hb_33L hb_33k ac_8_41 7 (by decide) (by decide) (by rw [hb_33n]; decide) (by rw [hb_34n]; decide) w_cp (Nat.le_of_ble_eq_true rfl) (Nat.le_of_ble_eq_true rfl) dX8_become_12 (fun J_35 hJ_35 => ?_)
  refine g_aload_n C 1 dX8_become_15 rfl rfl ?_
  obtain ⟨b_36, hb_36, hb_36L, hb_36k, hb_36n, hb_36o⟩ := shp_a (W9 b hLb) hkb 1 14 7 rfl (by decide)
  refine g_getR C K hLb hkb f_8_15 hb_36 dX8_become_16 ?_
  refine g_iconst C (v := 0) dX8_become_19 (by decide) ?_
  refine g_aload_n C 0 dX8_become_20 rfl rfl ?_
  obtain ⟨b_37, hb_37, hb_37L, hb_37k, hb_37n, hb_37o⟩ := shp_a (W9 a hLa) hka 1 14 7 rfl (by decide)
  refine g_getR C K hLa hka f_8_15 hb_37 dX8_become_21 ?_
  refine g_iconst C (v := 0) dX8_become_24 (by decide) ?_
  refine g_bipush C (v := 7) dX8_become_25 (by decide) ?_
  refine h_copyI C K hb_37L hb_37k hb_36L hb_36k ac_8_41 7 (by decide) (by decide) (by rw [hb_36n]; decide) (by rw [hb_37n]; decide) w_cp (Nat.le_of_ble_eq_true rfl) (Nat.le_of_ble_eq_true rfl) dX8_become_27 (fun I_38 hI_38 => ?_)
  refine g_aload_n C 1 dX8_become_30 rfl rfl ?_
  obtain ⟨b_39, hb_39, hb_39L, hb_39k, hb_39n, hb_39o⟩ := shp_a (W9 b hLb) hkb 2 14 7 rfl (by decide)
  refine g_getR C K hLb hkb f_8_19 hb_39 dX8_become_31 ?_
  refine g_iconst C (v := 0) dX8_become_34 (by decide) ?_
  refine g_aload_n C 0 dX8_become_35 rfl rfl ?_
  obtain ⟨b_40, hb_40, hb_40L, hb_40k, hb_40n, hb_40o⟩ := shp_a (W9 a hLa) hka 2 14 7 rfl (by decide)
  refine g_getR C K hLa hka f_8_19 hb_40 dX8_become_36 ?_
  refine g_iconst C (v := 0) dX8_become_39 (by decide) ?_
  refine g_bipush C (v := 7) dX8_become_40 (by decide) ?_
  refine h_copyI C K hb_40L hb_40k hb_39L hb_39k ac_8_41 7 (by decide) (by decide) (by rw [hb_39n]; decide) (by rw [hb_40n]; decide) w_cp (Nat.le_of_ble_eq_true rfl) (Nat.le_of_ble_eq_true rfl) dX8_become_42 (fun I_41 hI_41 => ?_)
  refine g_aload_n C 1 dX8_become_45 rfl rfl ?_
  obtain ⟨b_42, hb_42, hb_42L, hb_42k, hb_42n, hb_42o⟩ := shp_a (W9 b hLb) hkb 3 15 6 rfl (by decide)
  refine g_getR C K hLb hkb f_8_22 hb_42 dX8_become_46 ?_
  refine g_iconst C (v := 0) dX8_become_49 (by decide) ?_
  refine g_aload_n C 0 dX8_become_50 rfl rfl ?_
  obtain ⟨b_43, hb_43, hb_43L, hb_43k, hb_43n, hb_43o⟩ := shp_a (W9 a hLa) hka 3 15 6 rfl (by decide)
  refine g_getR C K hLa hka f_8_22 hb_43 dX8_become_51 ?_
  refine g_iconst C (v := 0) dX8_become_54 (by decide) ?_
  refine g_bipush C (v := 6) dX8_become_55 (by decide) ?_
  refine h_copyJ C K hb_43L hb_43k hb_42L hb_42k ac_8_41 6 (by decide) (by decide) (by rw [hb_42n]; decide) (by rw [hb_43n]; decide) w_cp (Nat.le_of_ble_eq_true rfl) (Nat.le_of_ble_eq_true rfl) dX8_become_57 (fun J_44 hJ_44 => ?_)
  refine g_aload_n C 1 dX8_become_60 rfl rfl ?_
  obtain ⟨b_45, hb_45, hb_45L, hb_45k, hb_45n, hb_45o⟩ := shp_a (W9 b hLb) hkb 4 14 6 rfl (by decide)
  refine g_getR C K hLb hkb f_8_25 hb_45 dX8_become_61 ?_
  refine g_iconst C (v := 0) dX8_become_64 (by decide) ?_
  refine g_aload_n C 0 dX8_become_65 rfl rfl ?_
  obtain ⟨b_46, hb_46, hb_46L, hb_46k, hb_46n, hb_46o⟩ := shp_a (W9 a hLa) hka 4 14 6 rfl (by decide)
  refine g_getR C K hLa hka f_8_25 hb_46 dX8_become_66 ?_
  refine g_iconst C (v := 0) dX8_become_69 (by decide) ?_
  refine g_bipush C (v := 6) dX8_become_70 (by decide) ?_
  refine h_copyI C K hb_46L hb_46k hb_45L hb_45k ac_8_41 6 (by decide) (by decide) (by rw [hb_45n]; decide) (by rw [hb_46n]; decide) w_cp (Nat.le_of_ble_eq_true rfl) (Nat.le_of_ble_eq_true rfl) dX8_become_72 (fun I_47 hI_47 => ?_)
  refine g_aload_n C 0 dX8_become_75 rfl rfl ?_
  refine g_aload_n C 1 dX8_become_76 rfl rfl ?_
  refine g_getI C K hLb hkb f_8_28 (v := 0) (by rw [hI_47, k2_k (κ := κ) (by rw [hkb, hb_46k]; decide), hI_41, k2_k (κ := κ) (by rw [hkb, hb_40k]; decide), hI_38, k2_k (κ := κ) (by rw [hkb, hb_37k]; decide)]; exact Z8 b hLb hkb 5) dX8_become_77 ?_
  refine h_putI C K hLa hka f_8_28 p_8_5 dX8_become_80 (fun I_48 hI_48 => ?_)
  refine g_aload_n C 0 dX8_become_83 rfl rfl ?_
  refine g_aload_n C 1 dX8_become_84 rfl rfl ?_
  refine g_getI C K hLb hkb f_8_32 (v := 0) (by rw [hI_48, u2_j (by decide), hI_47, k2_k (κ := κ) (by rw [hkb, hb_46k]; decide), hI_41, k2_k (κ := κ) (by rw [hkb, hb_40k]; decide), hI_38, k2_k (κ := κ) (by rw [hkb, hb_37k]; decide)]; exact Z8 b hLb hkb 6) dX8_become_85 ?_
  refine h_putI C K hLa hka f_8_32 p_8_6 dX8_become_88 (fun I_49 hI_49 => ?_)
  refine g_aload_n C 0 dX8_become_91 rfl rfl ?_
  refine g_aload_n C 1 dX8_become_92 rfl rfl ?_
  refine g_getI C K hLb hkb f_8_35 (v := 0) (by rw [hI_49, u2_j (by decide), hI_48, u2_j (by decide), hI_47, k2_k (κ := κ) (by rw [hkb, hb_46k]; decide), hI_41, k2_k (κ := κ) (by rw [hkb, hb_40k]; decide), hI_38, k2_k (κ := κ) (by rw [hkb, hb_37k]; decide)]; exact Z8 b hLb hkb 7) dX8_become_93 ?_
  refine h_putI C K hLa hka f_8_35 p_8_7 dX8_become_96 (fun I_50 hI_50 => ?_)
  refine g_aload_n C 0 dX8_become_99 rfl rfl ?_
  refine g_aload_n C 1 dX8_become_100 rfl rfl ?_
  refine g_getI C K hLb hkb f_8_38 (v := 0) (by rw [hI_50, u2_j (by decide), hI_49, u2_j (by decide), hI_48, u2_j (by decide), hI_47, k2_k (κ := κ) (by rw [hkb, hb_46k]; decide), hI_41, k2_k (κ := κ) (by rw [hkb, hb_40k]; decide), hI_38, k2_k (κ := κ) (by rw [hkb, hb_37k]; decide)]; exact Z8 b hLb hkb 8) dX8_become_101 ?_
  refine h_putI C K hLa hka f_8_38 p_8_8 dX8_become_104 (fun I_51 hI_51 => ?_)
  exact g_vret B K rfl (⟨((Fj.rf).k2 hJ_35 hb_34k (by decide)).k2 hJ_44 hb_43k (by decide), (((((((Fk.rf).k2 hI_38 hb_37k (by decide)).k2 hI_41 hb_40k (by decide)).k2 hI_47 hb_46k (by decide)).u2 hI_48 hka (by decide)).u2 hI_49 hka (by decide)).u2 hI_50 hka (by decide)).u2 hI_51 hka (by decide), (((((((Z8).k2k hI_38 hb_37k (by decide)).k2k hI_41 hb_40k (by decide)).k2k hI_47 hb_46k (by decide)).u2 hI_48 rfl).u2 hI_49 rfl).u2 hI_50 rfl).u2 hI_51 rfl⟩) dX8_become_107
set_option maxRecDepth 100000 in
set_option maxHeartbeats 4000000 in
theorem c_Course_become {l : Launch} {D : va_G} {cy : Nat → ClassId} {L : List Nat} {κ ln : Nat → Nat} {R : Nat → Nat → Option Nat} {I : Nat → Nat → Int32} {J : Nat → Nat → Int64} {ow : Nat → Nat × Nat} (W9 : ∀ a ∈ L, Shp L κ ln R ow a) {a : Nat} (hLa : a ∈ L) (hka : κ a = 1) {b : Nat} (hLb : b ∈ L) (hkb : κ b = 1) (Z1 : Zk L κ 1 I) : CtV l yX1_become cX1_become 2 none { frames := 1, cells := 0, slots := 0, locals := 100 } D cy L κ ln R I J [.ref a, .ref b] (fun I2 J2 => J = J2 ∧ Fk κ [1, 14] I I2 ∧ Zk L κ 1 I2) := by
  refine CtV.of (by decide +kernel) (Nat.le_of_ble_eq_true rfl) ?_
  intro p e s m below meth c B K
  have C := B.1
  refine g_lo (is := [0, 1]) (lo2 := [(0, .ref a), (1, .ref b)]) rfl ?_
  refine g_aload_n C 1 dX1_become_0 rfl rfl ?_
  obtain ⟨b_52, hb_52, hb_52L, hb_52k, hb_52n, hb_52o⟩ := shp_a (W9 b hLb) hkb 1 14 6 rfl (by decide)
  refine g_getR C K hLb hkb f_1_9 hb_52 dX1_become_1 ?_
  refine g_iconst C (v := 0) dX1_become_4 (by decide) ?_
  refine g_aload_n C 0 dX1_become_5 rfl rfl ?_
  obtain ⟨b_53, hb_53, hb_53L, hb_53k, hb_53n, hb_53o⟩ := shp_a (W9 a hLa) hka 1 14 6 rfl (by decide)
  refine g_getR C K hLa hka f_1_9 hb_53 dX1_become_6 ?_
  refine g_iconst C (v := 0) dX1_become_9 (by decide) ?_
  refine g_bipush C (v := 6) dX1_become_10 (by decide) ?_
  refine h_copyI C K hb_53L hb_53k hb_52L hb_52k ac_1_56 6 (by decide) (by decide) (by rw [hb_52n]; decide) (by rw [hb_53n]; decide) w_cp (Nat.le_of_ble_eq_true rfl) (Nat.le_of_ble_eq_true rfl) dX1_become_12 (fun I_54 hI_54 => ?_)
  refine g_aload_n C 1 dX1_become_15 rfl rfl ?_
  obtain ⟨b_55, hb_55, hb_55L, hb_55k, hb_55n, hb_55o⟩ := shp_a (W9 b hLb) hkb 2 14 42 rfl (by decide)
  refine g_getR C K hLb hkb f_1_15 hb_55 dX1_become_16 ?_
  refine g_iconst C (v := 0) dX1_become_19 (by decide) ?_
  refine g_aload_n C 0 dX1_become_20 rfl rfl ?_
  obtain ⟨b_56, hb_56, hb_56L, hb_56k, hb_56n, hb_56o⟩ := shp_a (W9 a hLa) hka 2 14 42 rfl (by decide)
  refine g_getR C K hLa hka f_1_15 hb_56 dX1_become_21 ?_
  refine g_iconst C (v := 0) dX1_become_24 (by decide) ?_
  refine g_bipush C (v := 42) dX1_become_25 (by decide) ?_
  refine h_copyI C K hb_56L hb_56k hb_55L hb_55k ac_1_56 42 (by decide) (by decide) (by rw [hb_55n]; decide) (by rw [hb_56n]; decide) w_cp (Nat.le_of_ble_eq_true rfl) (Nat.le_of_ble_eq_true rfl) dX1_become_27 (fun I_57 hI_57 => ?_)
  refine g_aload_n C 1 dX1_become_30 rfl rfl ?_
  obtain ⟨b_58, hb_58, hb_58L, hb_58k, hb_58n, hb_58o⟩ := shp_a (W9 b hLb) hkb 3 14 7 rfl (by decide)
  refine g_getR C K hLb hkb f_1_18 hb_58 dX1_become_31 ?_
  refine g_iconst C (v := 0) dX1_become_34 (by decide) ?_
  refine g_aload_n C 0 dX1_become_35 rfl rfl ?_
  obtain ⟨b_59, hb_59, hb_59L, hb_59k, hb_59n, hb_59o⟩ := shp_a (W9 a hLa) hka 3 14 7 rfl (by decide)
  refine g_getR C K hLa hka f_1_18 hb_59 dX1_become_36 ?_
  refine g_iconst C (v := 0) dX1_become_39 (by decide) ?_
  refine g_bipush C (v := 7) dX1_become_40 (by decide) ?_
  refine h_copyI C K hb_59L hb_59k hb_58L hb_58k ac_1_56 7 (by decide) (by decide) (by rw [hb_58n]; decide) (by rw [hb_59n]; decide) w_cp (Nat.le_of_ble_eq_true rfl) (Nat.le_of_ble_eq_true rfl) dX1_become_42 (fun I_60 hI_60 => ?_)
  refine g_aload_n C 1 dX1_become_45 rfl rfl ?_
  obtain ⟨b_61, hb_61, hb_61L, hb_61k, hb_61n, hb_61o⟩ := shp_a (W9 b hLb) hkb 4 14 7 rfl (by decide)
  refine g_getR C K hLb hkb f_1_21 hb_61 dX1_become_46 ?_
  refine g_iconst C (v := 0) dX1_become_49 (by decide) ?_
  refine g_aload_n C 0 dX1_become_50 rfl rfl ?_
  obtain ⟨b_62, hb_62, hb_62L, hb_62k, hb_62n, hb_62o⟩ := shp_a (W9 a hLa) hka 4 14 7 rfl (by decide)
  refine g_getR C K hLa hka f_1_21 hb_62 dX1_become_51 ?_
  refine g_iconst C (v := 0) dX1_become_54 (by decide) ?_
  refine g_bipush C (v := 7) dX1_become_55 (by decide) ?_
  refine h_copyI C K hb_62L hb_62k hb_61L hb_61k ac_1_56 7 (by decide) (by decide) (by rw [hb_61n]; decide) (by rw [hb_62n]; decide) w_cp (Nat.le_of_ble_eq_true rfl) (Nat.le_of_ble_eq_true rfl) dX1_become_57 (fun I_63 hI_63 => ?_)
  refine g_aload_n C 1 dX1_become_60 rfl rfl ?_
  obtain ⟨b_64, hb_64, hb_64L, hb_64k, hb_64n, hb_64o⟩ := shp_a (W9 b hLb) hkb 5 14 7 rfl (by decide)
  refine g_getR C K hLb hkb f_1_24 hb_64 dX1_become_61 ?_
  refine g_iconst C (v := 0) dX1_become_64 (by decide) ?_
  refine g_aload_n C 0 dX1_become_65 rfl rfl ?_
  obtain ⟨b_65, hb_65, hb_65L, hb_65k, hb_65n, hb_65o⟩ := shp_a (W9 a hLa) hka 5 14 7 rfl (by decide)
  refine g_getR C K hLa hka f_1_24 hb_65 dX1_become_66 ?_
  refine g_iconst C (v := 0) dX1_become_69 (by decide) ?_
  refine g_bipush C (v := 7) dX1_become_70 (by decide) ?_
  refine h_copyI C K hb_65L hb_65k hb_64L hb_64k ac_1_56 7 (by decide) (by decide) (by rw [hb_64n]; decide) (by rw [hb_65n]; decide) w_cp (Nat.le_of_ble_eq_true rfl) (Nat.le_of_ble_eq_true rfl) dX1_become_72 (fun I_66 hI_66 => ?_)
  refine g_aload_n C 1 dX1_become_75 rfl rfl ?_
  obtain ⟨b_67, hb_67, hb_67L, hb_67k, hb_67n, hb_67o⟩ := shp_a (W9 b hLb) hkb 6 14 7 rfl (by decide)
  refine g_getR C K hLb hkb f_1_27 hb_67 dX1_become_76 ?_
  refine g_iconst C (v := 0) dX1_become_79 (by decide) ?_
  refine g_aload_n C 0 dX1_become_80 rfl rfl ?_
  obtain ⟨b_68, hb_68, hb_68L, hb_68k, hb_68n, hb_68o⟩ := shp_a (W9 a hLa) hka 6 14 7 rfl (by decide)
  refine g_getR C K hLa hka f_1_27 hb_68 dX1_become_81 ?_
  refine g_iconst C (v := 0) dX1_become_84 (by decide) ?_
  refine g_bipush C (v := 7) dX1_become_85 (by decide) ?_
  refine h_copyI C K hb_68L hb_68k hb_67L hb_67k ac_1_56 7 (by decide) (by decide) (by rw [hb_67n]; decide) (by rw [hb_68n]; decide) w_cp (Nat.le_of_ble_eq_true rfl) (Nat.le_of_ble_eq_true rfl) dX1_become_87 (fun I_69 hI_69 => ?_)
  refine g_aload_n C 0 dX1_become_90 rfl rfl ?_
  refine g_aload_n C 1 dX1_become_91 rfl rfl ?_
  refine g_getI C K hLb hkb f_1_30 (v := 0) (by rw [hI_69, k2_k (κ := κ) (by rw [hkb, hb_68k]; decide), hI_66, k2_k (κ := κ) (by rw [hkb, hb_65k]; decide), hI_63, k2_k (κ := κ) (by rw [hkb, hb_62k]; decide), hI_60, k2_k (κ := κ) (by rw [hkb, hb_59k]; decide), hI_57, k2_k (κ := κ) (by rw [hkb, hb_56k]; decide), hI_54, k2_k (κ := κ) (by rw [hkb, hb_53k]; decide)]; exact Z1 b hLb hkb 7) dX1_become_92 ?_
  refine h_putI C K hLa hka f_1_30 p_1_7 dX1_become_95 (fun I_70 hI_70 => ?_)
  refine g_aload_n C 0 dX1_become_98 rfl rfl ?_
  refine g_aload_n C 1 dX1_become_99 rfl rfl ?_
  refine g_getI C K hLb hkb f_1_34 (v := 0) (by rw [hI_70, u2_j (by decide), hI_69, k2_k (κ := κ) (by rw [hkb, hb_68k]; decide), hI_66, k2_k (κ := κ) (by rw [hkb, hb_65k]; decide), hI_63, k2_k (κ := κ) (by rw [hkb, hb_62k]; decide), hI_60, k2_k (κ := κ) (by rw [hkb, hb_59k]; decide), hI_57, k2_k (κ := κ) (by rw [hkb, hb_56k]; decide), hI_54, k2_k (κ := κ) (by rw [hkb, hb_53k]; decide)]; exact Z1 b hLb hkb 8) dX1_become_100 ?_
  refine h_putI C K hLa hka f_1_34 p_1_8 dX1_become_103 (fun I_71 hI_71 => ?_)
  refine g_aload_n C 0 dX1_become_106 rfl rfl ?_
  refine g_aload_n C 1 dX1_become_107 rfl rfl ?_
  refine g_getI C K hLb hkb f_1_37 (v := 0) (by rw [hI_71, u2_j (by decide), hI_70, u2_j (by decide), hI_69, k2_k (κ := κ) (by rw [hkb, hb_68k]; decide), hI_66, k2_k (κ := κ) (by rw [hkb, hb_65k]; decide), hI_63, k2_k (κ := κ) (by rw [hkb, hb_62k]; decide), hI_60, k2_k (κ := κ) (by rw [hkb, hb_59k]; decide), hI_57, k2_k (κ := κ) (by rw [hkb, hb_56k]; decide), hI_54, k2_k (κ := κ) (by rw [hkb, hb_53k]; decide)]; exact Z1 b hLb hkb 9) dX1_become_108 ?_
  refine h_putI C K hLa hka f_1_37 p_1_9 dX1_become_111 (fun I_72 hI_72 => ?_)
  refine g_aload_n C 0 dX1_become_114 rfl rfl ?_
  refine g_aload_n C 1 dX1_become_115 rfl rfl ?_
  refine g_getI C K hLb hkb f_1_40 (v := 0) (by rw [hI_72, u2_j (by decide), hI_71, u2_j (by decide), hI_70, u2_j (by decide), hI_69, k2_k (κ := κ) (by rw [hkb, hb_68k]; decide), hI_66, k2_k (κ := κ) (by rw [hkb, hb_65k]; decide), hI_63, k2_k (κ := κ) (by rw [hkb, hb_62k]; decide), hI_60, k2_k (κ := κ) (by rw [hkb, hb_59k]; decide), hI_57, k2_k (κ := κ) (by rw [hkb, hb_56k]; decide), hI_54, k2_k (κ := κ) (by rw [hkb, hb_53k]; decide)]; exact Z1 b hLb hkb 10) dX1_become_116 ?_
  refine h_putI C K hLa hka f_1_40 p_1_10 dX1_become_119 (fun I_73 hI_73 => ?_)
  refine g_aload_n C 0 dX1_become_122 rfl rfl ?_
  refine g_aload_n C 1 dX1_become_123 rfl rfl ?_
  refine g_getI C K hLb hkb f_1_43 (v := 0) (by rw [hI_73, u2_j (by decide), hI_72, u2_j (by decide), hI_71, u2_j (by decide), hI_70, u2_j (by decide), hI_69, k2_k (κ := κ) (by rw [hkb, hb_68k]; decide), hI_66, k2_k (κ := κ) (by rw [hkb, hb_65k]; decide), hI_63, k2_k (κ := κ) (by rw [hkb, hb_62k]; decide), hI_60, k2_k (κ := κ) (by rw [hkb, hb_59k]; decide), hI_57, k2_k (κ := κ) (by rw [hkb, hb_56k]; decide), hI_54, k2_k (κ := κ) (by rw [hkb, hb_53k]; decide)]; exact Z1 b hLb hkb 11) dX1_become_124 ?_
  refine h_putI C K hLa hka f_1_43 p_1_11 dX1_become_127 (fun I_74 hI_74 => ?_)
  refine g_aload_n C 0 dX1_become_130 rfl rfl ?_
  refine g_aload_n C 1 dX1_become_131 rfl rfl ?_
  refine g_getI C K hLb hkb f_1_46 (v := 0) (by rw [hI_74, u2_j (by decide), hI_73, u2_j (by decide), hI_72, u2_j (by decide), hI_71, u2_j (by decide), hI_70, u2_j (by decide), hI_69, k2_k (κ := κ) (by rw [hkb, hb_68k]; decide), hI_66, k2_k (κ := κ) (by rw [hkb, hb_65k]; decide), hI_63, k2_k (κ := κ) (by rw [hkb, hb_62k]; decide), hI_60, k2_k (κ := κ) (by rw [hkb, hb_59k]; decide), hI_57, k2_k (κ := κ) (by rw [hkb, hb_56k]; decide), hI_54, k2_k (κ := κ) (by rw [hkb, hb_53k]; decide)]; exact Z1 b hLb hkb 12) dX1_become_132 ?_
  refine h_putI C K hLa hka f_1_46 p_1_12 dX1_become_135 (fun I_75 hI_75 => ?_)
  exact g_vret B K rfl (⟨rfl, ((((((((((((Fk.rf).k2 hI_54 hb_53k (by decide)).k2 hI_57 hb_56k (by decide)).k2 hI_60 hb_59k (by decide)).k2 hI_63 hb_62k (by decide)).k2 hI_66 hb_65k (by decide)).k2 hI_69 hb_68k (by decide)).u2 hI_70 hka (by decide)).u2 hI_71 hka (by decide)).u2 hI_72 hka (by decide)).u2 hI_73 hka (by decide)).u2 hI_74 hka (by decide)).u2 hI_75 hka (by decide), ((((((((((((Z1).k2k hI_54 hb_53k (by decide)).k2k hI_57 hb_56k (by decide)).k2k hI_60 hb_59k (by decide)).k2k hI_63 hb_62k (by decide)).k2k hI_66 hb_65k (by decide)).k2k hI_69 hb_68k (by decide)).u2 hI_70 rfl).u2 hI_71 rfl).u2 hI_72 rfl).u2 hI_73 rfl).u2 hI_74 rfl).u2 hI_75 rfl⟩) dX1_become_138
set_option maxRecDepth 100000 in
set_option maxHeartbeats 4000000 in
theorem c_Course_forget {l : Launch} {D : va_G} {cy : Nat → ClassId} {L : List Nat} {κ ln : Nat → Nat} {R : Nat → Nat → Option Nat} {I : Nat → Nat → Int32} {J : Nat → Nat → Int64} {ow : Nat → Nat × Nat} (W9 : ∀ a ∈ L, Shp L κ ln R ow a) {a : Nat} (hLa : a ∈ L) (hka : κ a = 1) (Z1 : Zk L κ 1 I) : CtV l yX1_forget cX1_forget 2 none { frames := 0, cells := 0, slots := 0, locals := 0 } D cy L κ ln R I J [.ref a] (fun I2 J2 => J = J2 ∧ Fk κ [1, 14] I I2 ∧ Zk L κ 1 I2) := by
  refine CtV.of (by decide +kernel) (Nat.le_of_ble_eq_true rfl) ?_
  intro p e s m below meth c B K
  have C := B.1
  refine g_lo (is := [0]) (lo2 := [(0, .ref a)]) rfl ?_
  refine g_iconst C (v := 0) dX1_forget_0 (by decide) ?_
  refine g_istore_n C dX1_forget_1 rfl (by decide) (lo2 := [(1, .int 0), (0, .ref a)]) rfl ?_
  have lp_83 : ∀ (n_79 i_78 : Nat) (I_76 : Nat → Nat → Int32) (J_77 : Nat → Nat → Int64), i_78 + n_79 = 6 → J = J_77 → Fk κ [14] I I_76 → WG p l e { frames := 0, cells := 0, slots := 0, locals := 0 } s m ([.ref a] : List Value).toArray below meth c 2 0 0 (MQ below (Qv_ D cy L κ ln R (fun I2 J2 => J = J2 ∧ Fk κ [1, 14] I I2 ∧ Zk L κ 1 I2)) ([.ref a] : List Value).toArray s 0 0 (Al_ L)) D cy (Al_ L) s.heap L κ ln R I_76 J_77 2 [(1, .int (nI i_78)), (0, .ref a)] [] := by
    intro n_79
    induction n_79 with
    | zero =>
      intro i_78 I_76 J_77 hi_82 e9 F_80
      subst e9
      refine g_iload_n C 0 dX1_forget_2 rfl rfl ?_
      refine g_bipush C (v := 6) dX1_forget_3 (by decide) ?_
      refine t_icmp_ge C (tgt := 21) (lt_ge (n := i_78) (k := 6) (by omega) (by omega)) dX1_forget_5 (by decide) ?_
      refine g_iconst C (v := 0) dX1_forget_21 (by decide) ?_
      refine g_istore_n C dX1_forget_22 rfl (by decide) (lo2 := [(1, .int 0), (0, .ref a)]) rfl ?_
      have lp_91 : ∀ (n_87 i_86 : Nat) (I_84 : Nat → Nat → Int32) (J_85 : Nat → Nat → Int64), i_86 + n_87 = 42 → J = J_85 → Fk κ [14] I_76 I_84 → WG p l e { frames := 0, cells := 0, slots := 0, locals := 0 } s m ([.ref a] : List Value).toArray below meth c 2 0 0 (MQ below (Qv_ D cy L κ ln R (fun I2 J2 => J = J2 ∧ Fk κ [1, 14] I I2 ∧ Zk L κ 1 I2)) ([.ref a] : List Value).toArray s 0 0 (Al_ L)) D cy (Al_ L) s.heap L κ ln R I_84 J_85 23 [(1, .int (nI i_86)), (0, .ref a)] [] := by
        intro n_87
        induction n_87 with
        | zero =>
          intro i_86 I_84 J_85 hi_90 e9 F_88
          subst e9
          refine g_iload_n C 0 dX1_forget_23 rfl rfl ?_
          refine g_bipush C (v := 42) dX1_forget_24 (by decide) ?_
          refine t_icmp_ge C (tgt := 42) (lt_ge (n := i_86) (k := 42) (by omega) (by omega)) dX1_forget_26 (by decide) ?_
          refine g_iconst C (v := 0) dX1_forget_42 (by decide) ?_
          refine g_istore_n C dX1_forget_43 rfl (by decide) (lo2 := [(1, .int 0), (0, .ref a)]) rfl ?_
          have lp_99 : ∀ (n_95 i_94 : Nat) (I_92 : Nat → Nat → Int32) (J_93 : Nat → Nat → Int64), i_94 + n_95 = 7 → J = J_93 → Fk κ [14] I_84 I_92 → WG p l e { frames := 0, cells := 0, slots := 0, locals := 0 } s m ([.ref a] : List Value).toArray below meth c 2 0 0 (MQ below (Qv_ D cy L κ ln R (fun I2 J2 => J = J2 ∧ Fk κ [1, 14] I I2 ∧ Zk L κ 1 I2)) ([.ref a] : List Value).toArray s 0 0 (Al_ L)) D cy (Al_ L) s.heap L κ ln R I_92 J_93 44 [(1, .int (nI i_94)), (0, .ref a)] [] := by
            intro n_95
            induction n_95 with
            | zero =>
              intro i_94 I_92 J_93 hi_98 e9 F_96
              subst e9
              refine g_iload_n C 0 dX1_forget_44 rfl rfl ?_
              refine g_bipush C (v := 7) dX1_forget_45 (by decide) ?_
              refine t_icmp_ge C (tgt := 84) (lt_ge (n := i_94) (k := 7) (by omega) (by omega)) dX1_forget_47 (by decide) ?_
              refine g_aload_n C 1 dX1_forget_84 rfl rfl ?_
              refine g_iconst C (v := 0) dX1_forget_85 (by decide) ?_
              refine h_putI C K hLa hka f_1_30 p_1_7 dX1_forget_86 (fun I_100 hI_100 => ?_)
              refine g_aload_n C 1 dX1_forget_89 rfl rfl ?_
              refine g_iconst C (v := 0) dX1_forget_90 (by decide) ?_
              refine h_putI C K hLa hka f_1_34 p_1_8 dX1_forget_91 (fun I_101 hI_101 => ?_)
              refine g_aload_n C 1 dX1_forget_94 rfl rfl ?_
              refine g_iconst C (v := 0) dX1_forget_95 (by decide) ?_
              refine h_putI C K hLa hka f_1_37 p_1_9 dX1_forget_96 (fun I_102 hI_102 => ?_)
              refine g_aload_n C 1 dX1_forget_99 rfl rfl ?_
              refine g_iconst C (v := 0) dX1_forget_100 (by decide) ?_
              refine h_putI C K hLa hka f_1_40 p_1_10 dX1_forget_101 (fun I_103 hI_103 => ?_)
              refine g_aload_n C 1 dX1_forget_104 rfl rfl ?_
              refine g_iconst C (v := 0) dX1_forget_105 (by decide) ?_
              refine h_putI C K hLa hka f_1_43 p_1_11 dX1_forget_106 (fun I_104 hI_104 => ?_)
              refine g_aload_n C 1 dX1_forget_109 rfl rfl ?_
              refine g_iconst C (v := 0) dX1_forget_110 (by decide) ?_
              refine h_putI C K hLa hka f_1_46 p_1_12 dX1_forget_111 (fun I_105 hI_105 => ?_)
              exact g_vret B K rfl (⟨rfl, (((((((((Fk.rf).tr F_80 (by decide)).tr F_88 (by decide)).tr F_96 (by decide)).u2 hI_100 hka (by decide)).u2 hI_101 hka (by decide)).u2 hI_102 hka (by decide)).u2 hI_103 hka (by decide)).u2 hI_104 hka (by decide)).u2 hI_105 hka (by decide), (((((((((Z1).fk F_80 (by decide)).fk F_88 (by decide)).fk F_96 (by decide)).u2 hI_100 rfl).u2 hI_101 rfl).u2 hI_102 rfl).u2 hI_103 rfl).u2 hI_104 rfl).u2 hI_105 rfl⟩) dX1_forget_114
            | succ n_95 ihn_95 =>
              intro i_94 I_92 J_93 hi_98 e9 F_96
              subst e9
              refine g_iload_n C 0 dX1_forget_44 rfl rfl ?_
              refine g_bipush C (v := 7) dX1_forget_45 (by decide) ?_
              refine n_icmp_ge C (tgt := 84) (ln_ge (n := i_94) (k := 7) (by omega) (by omega)) dX1_forget_47 (by decide) ?_
              refine g_aload_n C 1 dX1_forget_50 rfl rfl ?_
              obtain ⟨b_106, hb_106, hb_106L, hb_106k, hb_106n, hb_106o⟩ := shp_a (W9 a hLa) hka 3 14 7 rfl (by decide)
              refine g_getR C K hLa hka f_1_18 hb_106 dX1_forget_51 ?_
              refine g_iload_n C 0 dX1_forget_54 rfl rfl ?_
              refine g_iconst C (v := 0) dX1_forget_55 (by decide) ?_
              refine h_iast C K hb_106L hb_106k (i_94) (nI_clamp (by omega)) (nI_pos (by omega)) (by rw [hb_106n]; omega) dX1_forget_56 (fun I_107 hI_107 => ?_)
              refine g_aload_n C 1 dX1_forget_57 rfl rfl ?_
              obtain ⟨b_108, hb_108, hb_108L, hb_108k, hb_108n, hb_108o⟩ := shp_a (W9 a hLa) hka 4 14 7 rfl (by decide)
              refine g_getR C K hLa hka f_1_21 hb_108 dX1_forget_58 ?_
              refine g_iload_n C 0 dX1_forget_61 rfl rfl ?_
              refine g_iconst C (v := 0) dX1_forget_62 (by decide) ?_
              refine h_iast C K hb_108L hb_108k (i_94) (nI_clamp (by omega)) (nI_pos (by omega)) (by rw [hb_108n]; omega) dX1_forget_63 (fun I_109 hI_109 => ?_)
              refine g_aload_n C 1 dX1_forget_64 rfl rfl ?_
              obtain ⟨b_110, hb_110, hb_110L, hb_110k, hb_110n, hb_110o⟩ := shp_a (W9 a hLa) hka 5 14 7 rfl (by decide)
              refine g_getR C K hLa hka f_1_24 hb_110 dX1_forget_65 ?_
              refine g_iload_n C 0 dX1_forget_68 rfl rfl ?_
              refine g_iconst C (v := 0) dX1_forget_69 (by decide) ?_
              refine h_iast C K hb_110L hb_110k (i_94) (nI_clamp (by omega)) (nI_pos (by omega)) (by rw [hb_110n]; omega) dX1_forget_70 (fun I_111 hI_111 => ?_)
              refine g_aload_n C 1 dX1_forget_71 rfl rfl ?_
              obtain ⟨b_112, hb_112, hb_112L, hb_112k, hb_112n, hb_112o⟩ := shp_a (W9 a hLa) hka 6 14 7 rfl (by decide)
              refine g_getR C K hLa hka f_1_27 hb_112 dX1_forget_72 ?_
              refine g_iload_n C 0 dX1_forget_75 rfl rfl ?_
              refine g_iconst C (v := 0) dX1_forget_76 (by decide) ?_
              refine h_iast C K hb_112L hb_112k (i_94) (nI_clamp (by omega)) (nI_pos (by omega)) (by rw [hb_112n]; omega) dX1_forget_77 (fun I_113 hI_113 => ?_)
              refine g_iinc C dX1_forget_78 (k := 0) (v := nI (i_94 + 1)) rfl (nI_1 (i_94)) (by decide) (lo2 := [(1, .int (nI (i_94 + 1))), (0, .ref a)]) rfl ?_
              refine g_goto C (tgt := 44) dX1_forget_81 (by decide) ?_
              refine g_lo (is := [0, 1]) (lo2 := [(1, .int (nI (i_94 + 1))), (0, .ref a)]) rfl ?_
              exact ihn_95 (i_94 + 1) I_113 J (by omega) rfl (((((F_96).u2 hI_107 hb_106k (by decide)).u2 hI_109 hb_108k (by decide)).u2 hI_111 hb_110k (by decide)).u2 hI_113 hb_112k (by decide))
          exact lp_99 (7 - 0) 0 I_84 J (by omega) rfl Fk.rf
        | succ n_87 ihn_87 =>
          intro i_86 I_84 J_85 hi_90 e9 F_88
          subst e9
          refine g_iload_n C 0 dX1_forget_23 rfl rfl ?_
          refine g_bipush C (v := 42) dX1_forget_24 (by decide) ?_
          refine n_icmp_ge C (tgt := 42) (ln_ge (n := i_86) (k := 42) (by omega) (by omega)) dX1_forget_26 (by decide) ?_
          refine g_aload_n C 1 dX1_forget_29 rfl rfl ?_
          obtain ⟨b_114, hb_114, hb_114L, hb_114k, hb_114n, hb_114o⟩ := shp_a (W9 a hLa) hka 2 14 42 rfl (by decide)
          refine g_getR C K hLa hka f_1_15 hb_114 dX1_forget_30 ?_
          refine g_iload_n C 0 dX1_forget_33 rfl rfl ?_
          refine g_iconst C (v := 0) dX1_forget_34 (by decide) ?_
          refine h_iast C K hb_114L hb_114k (i_86) (nI_clamp (by omega)) (nI_pos (by omega)) (by rw [hb_114n]; omega) dX1_forget_35 (fun I_115 hI_115 => ?_)
          refine g_iinc C dX1_forget_36 (k := 0) (v := nI (i_86 + 1)) rfl (nI_1 (i_86)) (by decide) (lo2 := [(1, .int (nI (i_86 + 1))), (0, .ref a)]) rfl ?_
          refine g_goto C (tgt := 23) dX1_forget_39 (by decide) ?_
          refine g_lo (is := [0, 1]) (lo2 := [(1, .int (nI (i_86 + 1))), (0, .ref a)]) rfl ?_
          exact ihn_87 (i_86 + 1) I_115 J (by omega) rfl ((F_88).u2 hI_115 hb_114k (by decide))
      exact lp_91 (42 - 0) 0 I_76 J (by omega) rfl Fk.rf
    | succ n_79 ihn_79 =>
      intro i_78 I_76 J_77 hi_82 e9 F_80
      subst e9
      refine g_iload_n C 0 dX1_forget_2 rfl rfl ?_
      refine g_bipush C (v := 6) dX1_forget_3 (by decide) ?_
      refine n_icmp_ge C (tgt := 21) (ln_ge (n := i_78) (k := 6) (by omega) (by omega)) dX1_forget_5 (by decide) ?_
      refine g_aload_n C 1 dX1_forget_8 rfl rfl ?_
      obtain ⟨b_116, hb_116, hb_116L, hb_116k, hb_116n, hb_116o⟩ := shp_a (W9 a hLa) hka 1 14 6 rfl (by decide)
      refine g_getR C K hLa hka f_1_9 hb_116 dX1_forget_9 ?_
      refine g_iload_n C 0 dX1_forget_12 rfl rfl ?_
      refine g_iconst C (v := 0) dX1_forget_13 (by decide) ?_
      refine h_iast C K hb_116L hb_116k (i_78) (nI_clamp (by omega)) (nI_pos (by omega)) (by rw [hb_116n]; omega) dX1_forget_14 (fun I_117 hI_117 => ?_)
      refine g_iinc C dX1_forget_15 (k := 0) (v := nI (i_78 + 1)) rfl (nI_1 (i_78)) (by decide) (lo2 := [(1, .int (nI (i_78 + 1))), (0, .ref a)]) rfl ?_
      refine g_goto C (tgt := 2) dX1_forget_18 (by decide) ?_
      refine g_lo (is := [0, 1]) (lo2 := [(1, .int (nI (i_78 + 1))), (0, .ref a)]) rfl ?_
      exact ihn_79 (i_78 + 1) I_117 J (by omega) rfl ((F_80).u2 hI_117 hb_116k (by decide))
  exact lp_83 (6 - 0) 0 I J (by omega) rfl Fk.rf
end
section
theorem dX10_addToken_0 : decode cX10_addToken 0 = .ok (.aload_n 0, 1) := by decide +kernel
theorem dX10_addToken_1 : decode cX10_addToken 1 = .ok (.getfield 33, 3) := by decide +kernel
theorem dX10_addToken_4 : decode cX10_addToken 4 = .ok (.aload_n 0, 1) := by decide +kernel
theorem dX10_addToken_5 : decode cX10_addToken 5 = .ok (.getfield 19, 3) := by decide +kernel
theorem dX10_addToken_8 : decode cX10_addToken 8 = .ok (.arraylength, 1) := by decide +kernel
theorem dX10_addToken_9 : decode cX10_addToken 9 = .ok (.if_icmp .ge 43, 3) := by decide +kernel
theorem dX10_addToken_12 : decode cX10_addToken 12 = .ok (.aload_n 0, 1) := by decide +kernel
theorem dX10_addToken_13 : decode cX10_addToken 13 = .ok (.getfield 19, 3) := by decide +kernel
theorem dX10_addToken_16 : decode cX10_addToken 16 = .ok (.aload_n 0, 1) := by decide +kernel
theorem dX10_addToken_17 : decode cX10_addToken 17 = .ok (.getfield 33, 3) := by decide +kernel
theorem dX10_addToken_20 : decode cX10_addToken 20 = .ok (.iload_n 1, 1) := by decide +kernel
theorem dX10_addToken_21 : decode cX10_addToken 21 = .ok (.iastore, 1) := by decide +kernel
theorem dX10_addToken_22 : decode cX10_addToken 22 = .ok (.aload_n 0, 1) := by decide +kernel
theorem dX10_addToken_23 : decode cX10_addToken 23 = .ok (.getfield 23, 3) := by decide +kernel
theorem dX10_addToken_26 : decode cX10_addToken 26 = .ok (.aload_n 0, 1) := by decide +kernel
theorem dX10_addToken_27 : decode cX10_addToken 27 = .ok (.getfield 33, 3) := by decide +kernel
theorem dX10_addToken_30 : decode cX10_addToken 30 = .ok (.iload_n 2, 1) := by decide +kernel
theorem dX10_addToken_31 : decode cX10_addToken 31 = .ok (.iastore, 1) := by decide +kernel
theorem dX10_addToken_32 : decode cX10_addToken 32 = .ok (.aload_n 0, 1) := by decide +kernel
theorem dX10_addToken_33 : decode cX10_addToken 33 = .ok (.getfield 26, 3) := by decide +kernel
theorem dX10_addToken_36 : decode cX10_addToken 36 = .ok (.aload_n 0, 1) := by decide +kernel
theorem dX10_addToken_37 : decode cX10_addToken 37 = .ok (.getfield 33, 3) := by decide +kernel
theorem dX10_addToken_40 : decode cX10_addToken 40 = .ok (.lload_n 3, 1) := by decide +kernel
theorem dX10_addToken_41 : decode cX10_addToken 41 = .ok (.lastore, 1) := by decide +kernel
theorem dX10_addToken_42 : decode cX10_addToken 42 = .ok (.aload_n 0, 1) := by decide +kernel
theorem dX10_addToken_43 : decode cX10_addToken 43 = .ok (.dup, 1) := by decide +kernel
theorem dX10_addToken_44 : decode cX10_addToken 44 = .ok (.getfield 33, 3) := by decide +kernel
theorem dX10_addToken_47 : decode cX10_addToken 47 = .ok (.iconst 1, 1) := by decide +kernel
theorem dX10_addToken_48 : decode cX10_addToken 48 = .ok (.iadd, 1) := by decide +kernel
theorem dX10_addToken_49 : decode cX10_addToken 49 = .ok (.putfield 33, 3) := by decide +kernel
theorem dX10_addToken_52 : decode cX10_addToken 52 = .ok (.return_, 1) := by decide +kernel
theorem dX10_advance_0 : decode cX10_advance 0 = .ok (.aload_n 0, 1) := by decide +kernel
theorem dX10_advance_1 : decode cX10_advance 1 = .ok (.getfield 36, 3) := by decide +kernel
theorem dX10_advance_4 : decode cX10_advance 4 = .ok (.iconst 1, 1) := by decide +kernel
theorem dX10_advance_5 : decode cX10_advance 5 = .ok (.iadd, 1) := by decide +kernel
theorem dX10_advance_6 : decode cX10_advance 6 = .ok (.aload_n 0, 1) := by decide +kernel
theorem dX10_advance_7 : decode cX10_advance 7 = .ok (.getfield 33, 3) := by decide +kernel
theorem dX10_advance_10 : decode cX10_advance 10 = .ok (.if_icmp .ge 52, 3) := by decide +kernel
theorem dX10_advance_13 : decode cX10_advance 13 = .ok (.aload_n 0, 1) := by decide +kernel
theorem dX10_advance_14 : decode cX10_advance 14 = .ok (.dup, 1) := by decide +kernel
theorem dX10_advance_15 : decode cX10_advance 15 = .ok (.getfield 36, 3) := by decide +kernel
theorem dX10_advance_18 : decode cX10_advance 18 = .ok (.iconst 1, 1) := by decide +kernel
theorem dX10_advance_19 : decode cX10_advance 19 = .ok (.iadd, 1) := by decide +kernel
theorem dX10_advance_20 : decode cX10_advance 20 = .ok (.putfield 36, 3) := by decide +kernel
theorem dX10_advance_23 : decode cX10_advance 23 = .ok (.aload_n 0, 1) := by decide +kernel
theorem dX10_advance_24 : decode cX10_advance 24 = .ok (.aload_n 0, 1) := by decide +kernel
theorem dX10_advance_25 : decode cX10_advance 25 = .ok (.getfield 19, 3) := by decide +kernel
theorem dX10_advance_28 : decode cX10_advance 28 = .ok (.aload_n 0, 1) := by decide +kernel
theorem dX10_advance_29 : decode cX10_advance 29 = .ok (.getfield 36, 3) := by decide +kernel
theorem dX10_advance_32 : decode cX10_advance 32 = .ok (.iaload, 1) := by decide +kernel
theorem dX10_advance_33 : decode cX10_advance 33 = .ok (.putfield 39, 3) := by decide +kernel
theorem dX10_advance_36 : decode cX10_advance 36 = .ok (.aload_n 0, 1) := by decide +kernel
theorem dX10_advance_37 : decode cX10_advance 37 = .ok (.aload_n 0, 1) := by decide +kernel
theorem dX10_advance_38 : decode cX10_advance 38 = .ok (.getfield 23, 3) := by decide +kernel
theorem dX10_advance_41 : decode cX10_advance 41 = .ok (.aload_n 0, 1) := by decide +kernel
theorem dX10_advance_42 : decode cX10_advance 42 = .ok (.getfield 36, 3) := by decide +kernel
theorem dX10_advance_45 : decode cX10_advance 45 = .ok (.iaload, 1) := by decide +kernel
theorem dX10_advance_46 : decode cX10_advance 46 = .ok (.putfield 42, 3) := by decide +kernel
theorem dX10_advance_49 : decode cX10_advance 49 = .ok (.aload_n 0, 1) := by decide +kernel
theorem dX10_advance_50 : decode cX10_advance 50 = .ok (.aload_n 0, 1) := by decide +kernel
theorem dX10_advance_51 : decode cX10_advance 51 = .ok (.getfield 26, 3) := by decide +kernel
theorem dX10_advance_54 : decode cX10_advance 54 = .ok (.aload_n 0, 1) := by decide +kernel
theorem dX10_advance_55 : decode cX10_advance 55 = .ok (.getfield 36, 3) := by decide +kernel
theorem dX10_advance_58 : decode cX10_advance 58 = .ok (.laload, 1) := by decide +kernel
theorem dX10_advance_59 : decode cX10_advance 59 = .ok (.putfield 45, 3) := by decide +kernel
theorem dX10_advance_62 : decode cX10_advance 62 = .ok (.return_, 1) := by decide +kernel
theorem dX10_begin_0 : decode cX10_begin 0 = .ok (.aload_n 0, 1) := by decide +kernel
theorem dX10_begin_1 : decode cX10_begin 1 = .ok (.getfield 29, 3) := by decide +kernel
theorem dX10_begin_4 : decode cX10_begin 4 = .ok (.iload_n 1, 1) := by decide +kernel
theorem dX10_begin_5 : decode cX10_begin 5 = .ok (.invokestatic 70, 3) := by decide +kernel
theorem dX10_begin_8 : decode cX10_begin 8 = .ok (.aload_n 0, 1) := by decide +kernel
theorem dX10_begin_9 : decode cX10_begin 9 = .ok (.getfield 9, 3) := by decide +kernel
theorem dX10_begin_12 : decode cX10_begin 12 = .ok (.arraylength, 1) := by decide +kernel
theorem dX10_begin_13 : decode cX10_begin 13 = .ok (.invokestatic 70, 3) := by decide +kernel
theorem dX10_begin_16 : decode cX10_begin 16 = .ok (.istore_n 2, 1) := by decide +kernel
theorem dX10_begin_17 : decode cX10_begin 17 = .ok (.iconst 0, 1) := by decide +kernel
theorem dX10_begin_18 : decode cX10_begin 18 = .ok (.istore_n 3, 1) := by decide +kernel
theorem dX10_begin_19 : decode cX10_begin 19 = .ok (.aload_n 0, 1) := by decide +kernel
theorem dX10_begin_20 : decode cX10_begin 20 = .ok (.iconst 0, 1) := by decide +kernel
theorem dX10_begin_21 : decode cX10_begin 21 = .ok (.putfield 33, 3) := by decide +kernel
theorem dX10_begin_24 : decode cX10_begin 24 = .ok (.iconst 0, 1) := by decide +kernel
theorem dX10_begin_25 : decode cX10_begin 25 = .ok (.istore 4, 2) := by decide +kernel
theorem dX10_begin_27 : decode cX10_begin 27 = .ok (.iload 4, 2) := by decide +kernel
theorem dX10_begin_29 : decode cX10_begin 29 = .ok (.iload_n 2, 1) := by decide +kernel
theorem dX10_begin_30 : decode cX10_begin 30 = .ok (.if_icmp .ge 46, 3) := by decide +kernel
theorem dX10_begin_76 : decode cX10_begin 76 = .ok (.aload_n 0, 1) := by decide +kernel
theorem dX10_begin_77 : decode cX10_begin 77 = .ok (.aload_n 0, 1) := by decide +kernel
theorem dX10_begin_78 : decode cX10_begin 78 = .ok (.getfield 29, 3) := by decide +kernel
theorem dX10_begin_81 : decode cX10_begin 81 = .ok (.iload_n 1, 1) := by decide +kernel
theorem dX10_begin_82 : decode cX10_begin 82 = .ok (.if_icmp .le 8, 3) := by decide +kernel
theorem dX10_begin_90 : decode cX10_begin 90 = .ok (.bipush 102, 2) := by decide +kernel
theorem dX10_begin_92 : decode cX10_begin 92 = .ok (.iload_n 2, 1) := by decide +kernel
theorem dX10_begin_93 : decode cX10_begin 93 = .ok (.lconst 0, 1) := by decide +kernel
theorem dX10_begin_94 : decode cX10_begin 94 = .ok (.invokevirtual 80, 3) := by decide +kernel
theorem dX10_begin_97 : decode cX10_begin 97 = .ok (.aload_n 0, 1) := by decide +kernel
theorem dX10_begin_98 : decode cX10_begin 98 = .ok (.iconst 0, 1) := by decide +kernel
theorem dX10_begin_99 : decode cX10_begin 99 = .ok (.putfield 49, 3) := by decide +kernel
theorem dX10_begin_102 : decode cX10_begin 102 = .ok (.aload_n 0, 1) := by decide +kernel
theorem dX10_begin_103 : decode cX10_begin 103 = .ok (.iconst 0, 1) := by decide +kernel
theorem dX10_begin_104 : decode cX10_begin 104 = .ok (.putfield 52, 3) := by decide +kernel
theorem dX10_begin_107 : decode cX10_begin 107 = .ok (.aload_n 0, 1) := by decide +kernel
theorem dX10_begin_108 : decode cX10_begin 108 = .ok (.iconst (-1), 1) := by decide +kernel
theorem dX10_begin_109 : decode cX10_begin 109 = .ok (.putfield 36, 3) := by decide +kernel
theorem dX10_begin_112 : decode cX10_begin 112 = .ok (.aload_n 0, 1) := by decide +kernel
theorem dX10_begin_113 : decode cX10_begin 113 = .ok (.invokevirtual 84, 3) := by decide +kernel
theorem dX10_begin_116 : decode cX10_begin 116 = .ok (.return_, 1) := by decide +kernel
theorem dX10_byteOf_0 : decode cX10_byteOf 0 = .ok (.iload_n 1, 1) := by decide +kernel
theorem dX10_byteOf_1 : decode cX10_byteOf 1 = .ok (.ifCond .lt 33, 3) := by decide +kernel
theorem dX10_byteOf_4 : decode cX10_byteOf 4 = .ok (.iload_n 1, 1) := by decide +kernel
theorem dX10_byteOf_5 : decode cX10_byteOf 5 = .ok (.aload_n 0, 1) := by decide +kernel
theorem dX10_byteOf_6 : decode cX10_byteOf 6 = .ok (.getfield 29, 3) := by decide +kernel
theorem dX10_byteOf_9 : decode cX10_byteOf 9 = .ok (.if_icmp .ge 25, 3) := by decide +kernel
theorem dX10_byteOf_34 : decode cX10_byteOf 34 = .ok (.iconst (-1), 1) := by decide +kernel
theorem dX10_byteOf_35 : decode cX10_byteOf 35 = .ok (.ireturn, 1) := by decide +kernel
theorem dX10_fail_0 : decode cX10_fail 0 = .ok (.aload_n 0, 1) := by decide +kernel
theorem dX10_fail_1 : decode cX10_fail 1 = .ok (.getfield 49, 3) := by decide +kernel
theorem dX10_fail_4 : decode cX10_fail 4 = .ok (.ifCond .ne 16, 3) := by decide +kernel
theorem dX10_fail_7 : decode cX10_fail 7 = .ok (.aload_n 0, 1) := by decide +kernel
theorem dX10_fail_8 : decode cX10_fail 8 = .ok (.iload_n 1, 1) := by decide +kernel
theorem dX10_fail_9 : decode cX10_fail 9 = .ok (.putfield 49, 3) := by decide +kernel
theorem dX10_fail_12 : decode cX10_fail 12 = .ok (.aload_n 0, 1) := by decide +kernel
theorem dX10_fail_13 : decode cX10_fail 13 = .ok (.aload_n 0, 1) := by decide +kernel
theorem dX10_fail_14 : decode cX10_fail 14 = .ok (.getfield 42, 3) := by decide +kernel
theorem dX10_fail_17 : decode cX10_fail 17 = .ok (.putfield 52, 3) := by decide +kernel
theorem dX10_fail_20 : decode cX10_fail 20 = .ok (.iconst 0, 1) := by decide +kernel
theorem dX10_fail_21 : decode cX10_fail 21 = .ok (.ireturn, 1) := by decide +kernel
theorem ow_ne {ow : Nat → Nat × Nat} {b c a k a2 k2 : Nat} (h1 : ow b = (a, k)) (h2 : ow c = (a2, k2)) (h : k ≠ k2) : b ≠ c := fun q => by rw [q, h2] at h1; exact h (Prod.mk.inj h1).2.symm
set_option maxRecDepth 100000 in
set_option maxHeartbeats 4000000 in
theorem c_Tape_addToken0 {l : Launch} {D : va_G} {cy : Nat → ClassId} {L : List Nat} {κ ln : Nat → Nat} {R : Nat → Nat → Option Nat} {I : Nat → Nat → Int32} {J : Nat → Nat → Int64} {ow : Nat → Nat × Nat} (W9 : ∀ a ∈ L, Shp L κ ln R ow a) {t : Nat} (hLt : t ∈ L) (hkt : κ t = 10) (h6 : I t 6 = 0) (x y : Int32) (z : Int64) : CtV l yX10_addToken cX10_addToken 5 none { frames := 0, cells := 0, slots := 0, locals := 0 } D cy L κ ln R I J [.ref t, .int x, .int y, .long z] (fun I2 J2 => Fj κ [15] J J2 ∧ Fk κ [10, 14] I I2 ∧ (∀ j, j ≠ 6 → I2 t j = I t j) ∧ I2 t 6 = 1 ∧ (∀ b, R t 2 = some b → I2 b 0 = x) ∧ (∀ b, R t 3 = some b → I2 b 0 = y)) := by
  refine CtV.of (by decide +kernel) (Nat.le_of_ble_eq_true rfl) ?_
  intro p e s m below meth c B K
  have C := B.1
  refine g_lo (is := [0, 1, 2, 3]) (lo2 := [(0, .ref t), (1, .int x), (2, .int y), (3, .long z)]) rfl ?_
  refine g_aload_n C 0 dX10_addToken_0 rfl rfl ?_
  refine g_getI C K hLt hkt f_10_33 (v := 0) (h6) dX10_addToken_1 ?_
  refine g_aload_n C 0 dX10_addToken_4 rfl rfl ?_
  obtain ⟨b_118, hb_118, hb_118L, hb_118k, hb_118n, hb_118o⟩ := shp_a (W9 t hLt) hkt 2 14 901 rfl (by decide)
  refine g_getR C K hLt hkt f_10_19 hb_118 dX10_addToken_5 ?_
  refine g_alenI C K hb_118L hb_118k (v := 901) (by rw [hb_118n]; rfl) dX10_addToken_8 ?_
  refine n_icmp_ge C (tgt := 52) (by decide) dX10_addToken_9 (by decide) ?_
  refine g_aload_n C 0 dX10_addToken_12 rfl rfl ?_
  refine g_getR C K hLt hkt f_10_19 hb_118 dX10_addToken_13 ?_
  refine g_aload_n C 0 dX10_addToken_16 rfl rfl ?_
  refine g_getI C K hLt hkt f_10_33 (v := 0) (h6) dX10_addToken_17 ?_
  refine g_iload_n C 1 dX10_addToken_20 rfl rfl ?_
  refine h_iast C K hb_118L hb_118k (0) (by decide) (by decide) (by rw [hb_118n]; decide) dX10_addToken_21 (fun I_119 hI_119 => ?_)
  refine g_aload_n C 0 dX10_addToken_22 rfl rfl ?_
  obtain ⟨b_120, hb_120, hb_120L, hb_120k, hb_120n, hb_120o⟩ := shp_a (W9 t hLt) hkt 3 14 901 rfl (by decide)
  refine g_getR C K hLt hkt f_10_23 hb_120 dX10_addToken_23 ?_
  refine g_aload_n C 0 dX10_addToken_26 rfl rfl ?_
  refine g_getI C K hLt hkt f_10_33 (v := 0) (by rw [hI_119, u2_j (by decide)]; exact h6) dX10_addToken_27 ?_
  refine g_iload_n C 2 dX10_addToken_30 rfl rfl ?_
  refine h_iast C K hb_120L hb_120k (0) (by decide) (by decide) (by rw [hb_120n]; decide) dX10_addToken_31 (fun I_121 hI_121 => ?_)
  refine g_aload_n C 0 dX10_addToken_32 rfl rfl ?_
  obtain ⟨b_122, hb_122, hb_122L, hb_122k, hb_122n, hb_122o⟩ := shp_a (W9 t hLt) hkt 4 15 901 rfl (by decide)
  refine g_getR C K hLt hkt f_10_26 hb_122 dX10_addToken_33 ?_
  refine g_aload_n C 0 dX10_addToken_36 rfl rfl ?_
  refine g_getI C K hLt hkt f_10_33 (v := 0) (by rw [hI_121, u2_j (by decide), hI_119, u2_j (by decide)]; exact h6) dX10_addToken_37 ?_
  refine g_lload_n C 3 dX10_addToken_40 rfl rfl ?_
  refine h_last C K hb_122L hb_122k (0) (by decide) (by decide) (by rw [hb_122n]; decide) dX10_addToken_41 (fun J_123 hJ_123 => ?_)
  refine g_aload_n C 0 dX10_addToken_42 rfl rfl ?_
  refine g_dup C dX10_addToken_43 rfl ?_
  refine g_getI C K hLt hkt f_10_33 (v := 0) (by rw [hI_121, u2_j (by decide), hI_119, u2_j (by decide)]; exact h6) dX10_addToken_44 ?_
  refine g_iconst C (v := 1) dX10_addToken_47 (by decide) ?_
  refine g_iadd C (v := 1) dX10_addToken_48 (by decide) ?_
  refine h_putI C K hLt hkt f_10_33 p_10_6 dX10_addToken_49 (fun I_124 hI_124 => ?_)
  exact g_vret B K rfl (⟨(Fj.rf).u2 hJ_123 hb_122k (by decide), (((Fk.rf).u2 hI_119 hb_118k (by decide)).u2 hI_121 hb_120k (by decide)).u2 hI_124 hkt (by decide), fun j h0 => by rw [hI_124, u2_j h0, hI_121, u2_k (κ := κ) (by rw [hkt, hb_120k]; decide), hI_119, u2_k (κ := κ) (by rw [hkt, hb_118k]; decide)], by rw [hI_124]; exact u2_s, fun q hq => by rw [hb_118] at hq; cases hq; exact (by rw [hI_124, u2_j (by decide), hI_121, u2_b (ow_ne hb_118o hb_120o (by decide)), hI_119]; exact u2_s), fun q hq => by rw [hb_120] at hq; cases hq; exact (by rw [hI_124, u2_j (by decide), hI_121]; exact u2_s)⟩) dX10_addToken_52
set_option maxRecDepth 100000 in
set_option maxHeartbeats 4000000 in
theorem c_Tape_advance0 {l : Launch} {D : va_G} {cy : Nat → ClassId} {L : List Nat} {κ ln : Nat → Nat} {R : Nat → Nat → Option Nat} {I : Nat → Nat → Int32} {J : Nat → Nat → Int64} {ow : Nat → Nat × Nat} (W9 : ∀ a ∈ L, Shp L κ ln R ow a) {t : Nat} (hLt : t ∈ L) (hkt : κ t = 10) (h6 : I t 6 = 1) (h7 : I t 7 = -1) {x y : Int32} (h2 : ∀ b, R t 2 = some b → I b 0 = x) (h3 : ∀ b, R t 3 = some b → I b 0 = y) : CtV l yX10_advance cX10_advance 1 none { frames := 0, cells := 0, slots := 0, locals := 0 } D cy L κ ln R I J [.ref t] (fun I2 J2 => Fj κ [10] J J2 ∧ Fk κ [10] I I2 ∧ (∀ j, j ≠ 7 → j ≠ 8 → j ≠ 9 → I2 t j = I t j) ∧ I2 t 8 = x ∧ I2 t 9 = y) := by
  refine CtV.of (by decide +kernel) (Nat.le_of_ble_eq_true rfl) ?_
  intro p e s m below meth c B K
  have C := B.1
  refine g_lo (is := [0]) (lo2 := [(0, .ref t)]) rfl ?_
  refine g_aload_n C 0 dX10_advance_0 rfl rfl ?_
  refine g_getI C K hLt hkt f_10_36 (v := (-1)) (h7) dX10_advance_1 ?_
  refine g_iconst C (v := 1) dX10_advance_4 (by decide) ?_
  refine g_iadd C (v := 0) dX10_advance_5 (by decide) ?_
  refine g_aload_n C 0 dX10_advance_6 rfl rfl ?_
  refine g_getI C K hLt hkt f_10_33 (v := 1) (h6) dX10_advance_7 ?_
  refine n_icmp_ge C (tgt := 62) (by decide) dX10_advance_10 (by decide) ?_
  refine g_aload_n C 0 dX10_advance_13 rfl rfl ?_
  refine g_dup C dX10_advance_14 rfl ?_
  refine g_getI C K hLt hkt f_10_36 (v := (-1)) (h7) dX10_advance_15 ?_
  refine g_iconst C (v := 1) dX10_advance_18 (by decide) ?_
  refine g_iadd C (v := 0) dX10_advance_19 (by decide) ?_
  refine h_putI C K hLt hkt f_10_36 p_10_7 dX10_advance_20 (fun I_125 hI_125 => ?_)
  refine g_aload_n C 0 dX10_advance_23 rfl rfl ?_
  refine g_aload_n C 0 dX10_advance_24 rfl rfl ?_
  obtain ⟨b_126, hb_126, hb_126L, hb_126k, hb_126n, hb_126o⟩ := shp_a (W9 t hLt) hkt 2 14 901 rfl (by decide)
  refine g_getR C K hLt hkt f_10_19 hb_126 dX10_advance_25 ?_
  refine g_aload_n C 0 dX10_advance_28 rfl rfl ?_
  refine g_getI C K hLt hkt f_10_36 (v := 0) (by rw [hI_125]; exact u2_s) dX10_advance_29 ?_
  refine h_iald C K hb_126L hb_126k (v := x) (0) (by decide) (by decide) (by rw [hb_126n]; decide) (by rw [hI_125, u2_j (by decide)]; exact h2 b_126 hb_126) dX10_advance_32 ?_
  refine h_putI C K hLt hkt f_10_39 p_10_8 dX10_advance_33 (fun I_127 hI_127 => ?_)
  refine g_aload_n C 0 dX10_advance_36 rfl rfl ?_
  refine g_aload_n C 0 dX10_advance_37 rfl rfl ?_
  obtain ⟨b_128, hb_128, hb_128L, hb_128k, hb_128n, hb_128o⟩ := shp_a (W9 t hLt) hkt 3 14 901 rfl (by decide)
  refine g_getR C K hLt hkt f_10_23 hb_128 dX10_advance_38 ?_
  refine g_aload_n C 0 dX10_advance_41 rfl rfl ?_
  refine g_getI C K hLt hkt f_10_36 (v := 0) (by rw [hI_127, u2_j (by decide), hI_125]; exact u2_s) dX10_advance_42 ?_
  refine h_iald C K hb_128L hb_128k (v := y) (0) (by decide) (by decide) (by rw [hb_128n]; decide) (by rw [hI_127, u2_j (by decide), hI_125, u2_j (by decide)]; exact h3 b_128 hb_128) dX10_advance_45 ?_
  refine h_putI C K hLt hkt f_10_42 p_10_9 dX10_advance_46 (fun I_129 hI_129 => ?_)
  refine g_aload_n C 0 dX10_advance_49 rfl rfl ?_
  refine g_aload_n C 0 dX10_advance_50 rfl rfl ?_
  obtain ⟨b_130, hb_130, hb_130L, hb_130k, hb_130n, hb_130o⟩ := shp_a (W9 t hLt) hkt 4 15 901 rfl (by decide)
  refine g_getR C K hLt hkt f_10_26 hb_130 dX10_advance_51 ?_
  refine g_aload_n C 0 dX10_advance_54 rfl rfl ?_
  refine g_getI C K hLt hkt f_10_36 (v := 0) (by rw [hI_129, u2_j (by decide), hI_127, u2_j (by decide), hI_125]; exact u2_s) dX10_advance_55 ?_
  obtain ⟨x_131, hx_131⟩ : ∃ z, J b_130 (0) = z := ⟨_, rfl⟩
  refine h_lald C K hb_130L hb_130k (v := x_131) (0) (by decide) (by decide) (by rw [hb_130n]; decide) (hx_131) dX10_advance_58 ?_
  refine h_putJ C K hLt hkt f_10_45 p_10_10 dX10_advance_59 (fun J_132 hJ_132 => ?_)
  exact g_vret B K rfl (⟨(Fj.rf).u2 hJ_132 hkt (by decide), (((Fk.rf).u2 hI_125 hkt (by decide)).u2 hI_127 hkt (by decide)).u2 hI_129 hkt (by decide), fun j h0 h1 h2 => by rw [hI_129, u2_j h2, hI_127, u2_j h1, hI_125, u2_j h0], by rw [hI_129, u2_j (by decide), hI_127]; exact u2_s, by rw [hI_129]; exact u2_s⟩) dX10_advance_62
set_option maxRecDepth 100000 in
set_option maxHeartbeats 4000000 in
theorem c_Tape_begin_900 {l : Launch} {D : va_G} {cy : Nat → ClassId} {L : List Nat} {κ ln : Nat → Nat} {R : Nat → Nat → Option Nat} {I : Nat → Nat → Int32} {J : Nat → Nat → Int64} {ow : Nat → Nat × Nat} (W9 : ∀ a ∈ L, Shp L κ ln R ow a) {t : Nat} (hLt : t ∈ L) (hkt : κ t = 10) (h5 : I t 5 = 0) : CtV l yX10_begin cX10_begin 5 none { frames := 1, cells := 0, slots := 0, locals := 100 } D cy L κ ln R I J [.ref t, .int 900] (fun I2 J2 => Fj κ [10, 15] J J2 ∧ Fk κ [10, 14] I I2 ∧ I2 t 5 = 0 ∧ I2 t 8 = 102 ∧ I2 t 9 = 0 ∧ I2 t 11 = 0 ∧ I2 t 12 = 0) := by
  refine CtV.of (by decide +kernel) (Nat.le_of_ble_eq_true rfl) ?_
  intro p e s m below meth c B K
  have C := B.1
  refine g_lo (is := [0, 1]) (lo2 := [(0, .ref t), (1, .int 900)]) rfl ?_
  refine g_aload_n C 0 dX10_begin_0 rfl rfl ?_
  refine g_getI C K hLt hkt f_10_29 (v := 0) (h5) dX10_begin_1 ?_
  refine g_iload_n C 1 dX10_begin_4 rfl rfl ?_
  refine g_mmin C (v := 0) mw_10_70 w_min (Nat.le_of_ble_eq_true rfl) (Nat.le_of_ble_eq_true rfl) ⟨Nat.le_of_ble_eq_true rfl, Nat.le_of_ble_eq_true rfl⟩ (by decide) dX10_begin_5 ?_
  refine g_aload_n C 0 dX10_begin_8 rfl rfl ?_
  obtain ⟨b_133, hb_133, hb_133L, hb_133k, hb_133n, hb_133o⟩ := shp_a (W9 t hLt) hkt 0 13 940 rfl (by decide)
  refine g_getR C K hLt hkt f_10_9 hb_133 dX10_begin_9 ?_
  refine g_alenB C K hb_133L hb_133k (v := 940) (by rw [hb_133n]; rfl) dX10_begin_12 ?_
  refine g_mmin C (v := 0) mw_10_70 w_min (Nat.le_of_ble_eq_true rfl) (Nat.le_of_ble_eq_true rfl) ⟨Nat.le_of_ble_eq_true rfl, Nat.le_of_ble_eq_true rfl⟩ (by decide) dX10_begin_13 ?_
  refine g_istore_n C dX10_begin_16 rfl (by decide) (lo2 := [(2, .int 0), (0, .ref t), (1, .int 900)]) rfl ?_
  refine g_iconst C (v := 0) dX10_begin_17 (by decide) ?_
  refine g_istore_n C dX10_begin_18 rfl (by decide) (lo2 := [(3, .int 0), (2, .int 0), (0, .ref t), (1, .int 900)]) rfl ?_
  refine g_aload_n C 2 dX10_begin_19 rfl rfl ?_
  refine g_iconst C (v := 0) dX10_begin_20 (by decide) ?_
  refine h_putI C K hLt hkt f_10_33 p_10_6 dX10_begin_21 (fun I_134 hI_134 => ?_)
  refine g_iconst C (v := 0) dX10_begin_24 (by decide) ?_
  refine g_istore C dX10_begin_25 (by decide) (lo2 := [(4, .int 0), (3, .int 0), (2, .int 0), (0, .ref t), (1, .int 900)]) rfl ?_
  refine g_iload C 0 dX10_begin_27 rfl ?_
  refine g_iload_n C 2 dX10_begin_29 rfl rfl ?_
  refine t_icmp_ge C (tgt := 76) (by decide) dX10_begin_30 (by decide) ?_
  refine g_aload_n C 3 dX10_begin_76 rfl rfl ?_
  refine g_aload_n C 3 dX10_begin_77 rfl rfl ?_
  refine g_getI C K hLt hkt f_10_29 (v := 0) (by rw [hI_134, u2_j (by decide)]; exact h5) dX10_begin_78 ?_
  refine g_iload_n C 4 dX10_begin_81 rfl rfl ?_
  refine t_icmp_le C (tgt := 90) (by decide) dX10_begin_82 (by decide) ?_
  refine g_bipush C (v := 102) dX10_begin_90 (by decide) ?_
  refine g_iload_n C 2 dX10_begin_92 rfl rfl ?_
  refine g_lconst C (v := 0) dX10_begin_93 (by decide) ?_
  refine g_callVV C K (c_Tape_addToken0 W9 hLt hkt (by rw [hI_134]; exact u2_s) (102) (0) (0)) hLt hkt (by decide) rfl v_10_80 rfl ⟨rfl, rfl⟩ ⟨Nat.le_of_ble_eq_true rfl, Nat.le_of_ble_eq_true rfl⟩ (Nat.le_of_ble_eq_true rfl) ⟨Nat.le_of_ble_eq_true rfl, Nat.le_of_ble_eq_true rfl⟩ dX10_begin_94 rfl (st := []) (fun I_135 J_136 h_137 => ?_)
  obtain ⟨g_140, f_139, v_141, v_142, v_143, v_144⟩ := h_137
  refine g_aload_n C 3 dX10_begin_97 rfl rfl ?_
  refine g_iconst C (v := 0) dX10_begin_98 (by decide) ?_
  refine h_putI C K hLt hkt f_10_49 p_10_11 dX10_begin_99 (fun I_145 hI_145 => ?_)
  refine g_aload_n C 3 dX10_begin_102 rfl rfl ?_
  refine g_iconst C (v := 0) dX10_begin_103 (by decide) ?_
  refine h_putI C K hLt hkt f_10_52 p_10_12 dX10_begin_104 (fun I_146 hI_146 => ?_)
  refine g_aload_n C 3 dX10_begin_107 rfl rfl ?_
  refine g_iconst C (v := (-1)) dX10_begin_108 (by decide) ?_
  refine h_putI C K hLt hkt f_10_36 p_10_7 dX10_begin_109 (fun I_147 hI_147 => ?_)
  refine g_aload_n C 3 dX10_begin_112 rfl rfl ?_
  obtain ⟨b_152, hb_152, hb_152L, hb_152k, hb_152n, hb_152o⟩ := shp_a (W9 t hLt) hkt 2 14 901 rfl (by decide)
  obtain ⟨b_153, hb_153, hb_153L, hb_153k, hb_153n, hb_153o⟩ := shp_a (W9 t hLt) hkt 3 14 901 rfl (by decide)
  refine g_callVV C K (c_Tape_advance0 W9 hLt hkt (by rw [hI_147, u2_j (by decide), hI_146, u2_j (by decide), hI_145, u2_j (by decide)]; exact v_142) (by rw [hI_147]; exact u2_s) (x := 102) (y := 0) (fun b hb => by rw [hb_152] at hb; cases hb; exact (by rw [hI_147, u2_j (by decide), hI_146, u2_j (by decide), hI_145, u2_j (by decide)]; exact v_143 b_152 hb_152)) (fun b hb => by rw [hb_153] at hb; cases hb; exact (by rw [hI_147, u2_j (by decide), hI_146, u2_j (by decide), hI_145, u2_j (by decide)]; exact v_144 b_153 hb_153))) hLt hkt (by decide) rfl v_10_84 rfl ⟨rfl, rfl⟩ ⟨Nat.le_of_ble_eq_true rfl, Nat.le_of_ble_eq_true rfl⟩ (Nat.le_of_ble_eq_true rfl) ⟨Nat.le_of_ble_eq_true rfl, Nat.le_of_ble_eq_true rfl⟩ dX10_begin_113 rfl (st := []) (fun I_148 J_149 h_150 => ?_)
  obtain ⟨g_155, f_154, v_156, v_157, v_158⟩ := h_150
  exact g_vret B K rfl (⟨((Fj.rf).tr g_140 (by decide)).tr g_155 (by decide), ((((((Fk.rf).u2 hI_134 hkt (by decide)).tr f_139 (by decide)).u2 hI_145 hkt (by decide)).u2 hI_146 hkt (by decide)).u2 hI_147 hkt (by decide)).tr f_154 (by decide), by rw [v_156 5 (by decide) (by decide) (by decide), hI_147, u2_j (by decide), hI_146, u2_j (by decide), hI_145, u2_j (by decide), v_141 5 (by decide), hI_134, u2_j (by decide)]; exact h5, v_157, v_158, by rw [v_156 11 (by decide) (by decide) (by decide), hI_147, u2_j (by decide), hI_146, u2_j (by decide), hI_145]; exact u2_s, by rw [v_156 12 (by decide) (by decide) (by decide), hI_147, u2_j (by decide), hI_146]; exact u2_s⟩) dX10_begin_116
set_option maxRecDepth 100000 in
set_option maxHeartbeats 4000000 in
theorem c_Tape_begin_400 {l : Launch} {D : va_G} {cy : Nat → ClassId} {L : List Nat} {κ ln : Nat → Nat} {R : Nat → Nat → Option Nat} {I : Nat → Nat → Int32} {J : Nat → Nat → Int64} {ow : Nat → Nat × Nat} (W9 : ∀ a ∈ L, Shp L κ ln R ow a) {t : Nat} (hLt : t ∈ L) (hkt : κ t = 10) (h5 : I t 5 = 0) : CtV l yX10_begin cX10_begin 5 none { frames := 1, cells := 0, slots := 0, locals := 100 } D cy L κ ln R I J [.ref t, .int 400] (fun I2 J2 => Fj κ [10, 15] J J2 ∧ Fk κ [10, 14] I I2 ∧ I2 t 5 = 0 ∧ I2 t 8 = 102 ∧ I2 t 9 = 0 ∧ I2 t 11 = 0 ∧ I2 t 12 = 0) := by
  refine CtV.of (by decide +kernel) (Nat.le_of_ble_eq_true rfl) ?_
  intro p e s m below meth c B K
  have C := B.1
  refine g_lo (is := [0, 1]) (lo2 := [(0, .ref t), (1, .int 400)]) rfl ?_
  refine g_aload_n C 0 dX10_begin_0 rfl rfl ?_
  refine g_getI C K hLt hkt f_10_29 (v := 0) (h5) dX10_begin_1 ?_
  refine g_iload_n C 1 dX10_begin_4 rfl rfl ?_
  refine g_mmin C (v := 0) mw_10_70 w_min (Nat.le_of_ble_eq_true rfl) (Nat.le_of_ble_eq_true rfl) ⟨Nat.le_of_ble_eq_true rfl, Nat.le_of_ble_eq_true rfl⟩ (by decide) dX10_begin_5 ?_
  refine g_aload_n C 0 dX10_begin_8 rfl rfl ?_
  obtain ⟨b_159, hb_159, hb_159L, hb_159k, hb_159n, hb_159o⟩ := shp_a (W9 t hLt) hkt 0 13 940 rfl (by decide)
  refine g_getR C K hLt hkt f_10_9 hb_159 dX10_begin_9 ?_
  refine g_alenB C K hb_159L hb_159k (v := 940) (by rw [hb_159n]; rfl) dX10_begin_12 ?_
  refine g_mmin C (v := 0) mw_10_70 w_min (Nat.le_of_ble_eq_true rfl) (Nat.le_of_ble_eq_true rfl) ⟨Nat.le_of_ble_eq_true rfl, Nat.le_of_ble_eq_true rfl⟩ (by decide) dX10_begin_13 ?_
  refine g_istore_n C dX10_begin_16 rfl (by decide) (lo2 := [(2, .int 0), (0, .ref t), (1, .int 400)]) rfl ?_
  refine g_iconst C (v := 0) dX10_begin_17 (by decide) ?_
  refine g_istore_n C dX10_begin_18 rfl (by decide) (lo2 := [(3, .int 0), (2, .int 0), (0, .ref t), (1, .int 400)]) rfl ?_
  refine g_aload_n C 2 dX10_begin_19 rfl rfl ?_
  refine g_iconst C (v := 0) dX10_begin_20 (by decide) ?_
  refine h_putI C K hLt hkt f_10_33 p_10_6 dX10_begin_21 (fun I_160 hI_160 => ?_)
  refine g_iconst C (v := 0) dX10_begin_24 (by decide) ?_
  refine g_istore C dX10_begin_25 (by decide) (lo2 := [(4, .int 0), (3, .int 0), (2, .int 0), (0, .ref t), (1, .int 400)]) rfl ?_
  refine g_iload C 0 dX10_begin_27 rfl ?_
  refine g_iload_n C 2 dX10_begin_29 rfl rfl ?_
  refine t_icmp_ge C (tgt := 76) (by decide) dX10_begin_30 (by decide) ?_
  refine g_aload_n C 3 dX10_begin_76 rfl rfl ?_
  refine g_aload_n C 3 dX10_begin_77 rfl rfl ?_
  refine g_getI C K hLt hkt f_10_29 (v := 0) (by rw [hI_160, u2_j (by decide)]; exact h5) dX10_begin_78 ?_
  refine g_iload_n C 4 dX10_begin_81 rfl rfl ?_
  refine t_icmp_le C (tgt := 90) (by decide) dX10_begin_82 (by decide) ?_
  refine g_bipush C (v := 102) dX10_begin_90 (by decide) ?_
  refine g_iload_n C 2 dX10_begin_92 rfl rfl ?_
  refine g_lconst C (v := 0) dX10_begin_93 (by decide) ?_
  refine g_callVV C K (c_Tape_addToken0 W9 hLt hkt (by rw [hI_160]; exact u2_s) (102) (0) (0)) hLt hkt (by decide) rfl v_10_80 rfl ⟨rfl, rfl⟩ ⟨Nat.le_of_ble_eq_true rfl, Nat.le_of_ble_eq_true rfl⟩ (Nat.le_of_ble_eq_true rfl) ⟨Nat.le_of_ble_eq_true rfl, Nat.le_of_ble_eq_true rfl⟩ dX10_begin_94 rfl (st := []) (fun I_161 J_162 h_163 => ?_)
  obtain ⟨g_166, f_165, v_167, v_168, v_169, v_170⟩ := h_163
  refine g_aload_n C 3 dX10_begin_97 rfl rfl ?_
  refine g_iconst C (v := 0) dX10_begin_98 (by decide) ?_
  refine h_putI C K hLt hkt f_10_49 p_10_11 dX10_begin_99 (fun I_171 hI_171 => ?_)
  refine g_aload_n C 3 dX10_begin_102 rfl rfl ?_
  refine g_iconst C (v := 0) dX10_begin_103 (by decide) ?_
  refine h_putI C K hLt hkt f_10_52 p_10_12 dX10_begin_104 (fun I_172 hI_172 => ?_)
  refine g_aload_n C 3 dX10_begin_107 rfl rfl ?_
  refine g_iconst C (v := (-1)) dX10_begin_108 (by decide) ?_
  refine h_putI C K hLt hkt f_10_36 p_10_7 dX10_begin_109 (fun I_173 hI_173 => ?_)
  refine g_aload_n C 3 dX10_begin_112 rfl rfl ?_
  obtain ⟨b_178, hb_178, hb_178L, hb_178k, hb_178n, hb_178o⟩ := shp_a (W9 t hLt) hkt 2 14 901 rfl (by decide)
  obtain ⟨b_179, hb_179, hb_179L, hb_179k, hb_179n, hb_179o⟩ := shp_a (W9 t hLt) hkt 3 14 901 rfl (by decide)
  refine g_callVV C K (c_Tape_advance0 W9 hLt hkt (by rw [hI_173, u2_j (by decide), hI_172, u2_j (by decide), hI_171, u2_j (by decide)]; exact v_168) (by rw [hI_173]; exact u2_s) (x := 102) (y := 0) (fun b hb => by rw [hb_178] at hb; cases hb; exact (by rw [hI_173, u2_j (by decide), hI_172, u2_j (by decide), hI_171, u2_j (by decide)]; exact v_169 b_178 hb_178)) (fun b hb => by rw [hb_179] at hb; cases hb; exact (by rw [hI_173, u2_j (by decide), hI_172, u2_j (by decide), hI_171, u2_j (by decide)]; exact v_170 b_179 hb_179))) hLt hkt (by decide) rfl v_10_84 rfl ⟨rfl, rfl⟩ ⟨Nat.le_of_ble_eq_true rfl, Nat.le_of_ble_eq_true rfl⟩ (Nat.le_of_ble_eq_true rfl) ⟨Nat.le_of_ble_eq_true rfl, Nat.le_of_ble_eq_true rfl⟩ dX10_begin_113 rfl (st := []) (fun I_174 J_175 h_176 => ?_)
  obtain ⟨g_181, f_180, v_182, v_183, v_184⟩ := h_176
  exact g_vret B K rfl (⟨((Fj.rf).tr g_166 (by decide)).tr g_181 (by decide), ((((((Fk.rf).u2 hI_160 hkt (by decide)).tr f_165 (by decide)).u2 hI_171 hkt (by decide)).u2 hI_172 hkt (by decide)).u2 hI_173 hkt (by decide)).tr f_180 (by decide), by rw [v_182 5 (by decide) (by decide) (by decide), hI_173, u2_j (by decide), hI_172, u2_j (by decide), hI_171, u2_j (by decide), v_167 5 (by decide), hI_160, u2_j (by decide)]; exact h5, v_183, v_184, by rw [v_182 11 (by decide) (by decide) (by decide), hI_173, u2_j (by decide), hI_172, u2_j (by decide), hI_171]; exact u2_s, by rw [v_182 12 (by decide) (by decide) (by decide), hI_173, u2_j (by decide), hI_172]; exact u2_s⟩) dX10_begin_116
set_option maxRecDepth 100000 in
set_option maxHeartbeats 4000000 in
theorem c_Tape_begin_200 {l : Launch} {D : va_G} {cy : Nat → ClassId} {L : List Nat} {κ ln : Nat → Nat} {R : Nat → Nat → Option Nat} {I : Nat → Nat → Int32} {J : Nat → Nat → Int64} {ow : Nat → Nat × Nat} (W9 : ∀ a ∈ L, Shp L κ ln R ow a) {t : Nat} (hLt : t ∈ L) (hkt : κ t = 10) (h5 : I t 5 = 0) : CtV l yX10_begin cX10_begin 5 none { frames := 1, cells := 0, slots := 0, locals := 100 } D cy L κ ln R I J [.ref t, .int 200] (fun I2 J2 => Fj κ [10, 15] J J2 ∧ Fk κ [10, 14] I I2 ∧ I2 t 5 = 0 ∧ I2 t 8 = 102 ∧ I2 t 9 = 0 ∧ I2 t 11 = 0 ∧ I2 t 12 = 0) := by
  refine CtV.of (by decide +kernel) (Nat.le_of_ble_eq_true rfl) ?_
  intro p e s m below meth c B K
  have C := B.1
  refine g_lo (is := [0, 1]) (lo2 := [(0, .ref t), (1, .int 200)]) rfl ?_
  refine g_aload_n C 0 dX10_begin_0 rfl rfl ?_
  refine g_getI C K hLt hkt f_10_29 (v := 0) (h5) dX10_begin_1 ?_
  refine g_iload_n C 1 dX10_begin_4 rfl rfl ?_
  refine g_mmin C (v := 0) mw_10_70 w_min (Nat.le_of_ble_eq_true rfl) (Nat.le_of_ble_eq_true rfl) ⟨Nat.le_of_ble_eq_true rfl, Nat.le_of_ble_eq_true rfl⟩ (by decide) dX10_begin_5 ?_
  refine g_aload_n C 0 dX10_begin_8 rfl rfl ?_
  obtain ⟨b_185, hb_185, hb_185L, hb_185k, hb_185n, hb_185o⟩ := shp_a (W9 t hLt) hkt 0 13 940 rfl (by decide)
  refine g_getR C K hLt hkt f_10_9 hb_185 dX10_begin_9 ?_
  refine g_alenB C K hb_185L hb_185k (v := 940) (by rw [hb_185n]; rfl) dX10_begin_12 ?_
  refine g_mmin C (v := 0) mw_10_70 w_min (Nat.le_of_ble_eq_true rfl) (Nat.le_of_ble_eq_true rfl) ⟨Nat.le_of_ble_eq_true rfl, Nat.le_of_ble_eq_true rfl⟩ (by decide) dX10_begin_13 ?_
  refine g_istore_n C dX10_begin_16 rfl (by decide) (lo2 := [(2, .int 0), (0, .ref t), (1, .int 200)]) rfl ?_
  refine g_iconst C (v := 0) dX10_begin_17 (by decide) ?_
  refine g_istore_n C dX10_begin_18 rfl (by decide) (lo2 := [(3, .int 0), (2, .int 0), (0, .ref t), (1, .int 200)]) rfl ?_
  refine g_aload_n C 2 dX10_begin_19 rfl rfl ?_
  refine g_iconst C (v := 0) dX10_begin_20 (by decide) ?_
  refine h_putI C K hLt hkt f_10_33 p_10_6 dX10_begin_21 (fun I_186 hI_186 => ?_)
  refine g_iconst C (v := 0) dX10_begin_24 (by decide) ?_
  refine g_istore C dX10_begin_25 (by decide) (lo2 := [(4, .int 0), (3, .int 0), (2, .int 0), (0, .ref t), (1, .int 200)]) rfl ?_
  refine g_iload C 0 dX10_begin_27 rfl ?_
  refine g_iload_n C 2 dX10_begin_29 rfl rfl ?_
  refine t_icmp_ge C (tgt := 76) (by decide) dX10_begin_30 (by decide) ?_
  refine g_aload_n C 3 dX10_begin_76 rfl rfl ?_
  refine g_aload_n C 3 dX10_begin_77 rfl rfl ?_
  refine g_getI C K hLt hkt f_10_29 (v := 0) (by rw [hI_186, u2_j (by decide)]; exact h5) dX10_begin_78 ?_
  refine g_iload_n C 4 dX10_begin_81 rfl rfl ?_
  refine t_icmp_le C (tgt := 90) (by decide) dX10_begin_82 (by decide) ?_
  refine g_bipush C (v := 102) dX10_begin_90 (by decide) ?_
  refine g_iload_n C 2 dX10_begin_92 rfl rfl ?_
  refine g_lconst C (v := 0) dX10_begin_93 (by decide) ?_
  refine g_callVV C K (c_Tape_addToken0 W9 hLt hkt (by rw [hI_186]; exact u2_s) (102) (0) (0)) hLt hkt (by decide) rfl v_10_80 rfl ⟨rfl, rfl⟩ ⟨Nat.le_of_ble_eq_true rfl, Nat.le_of_ble_eq_true rfl⟩ (Nat.le_of_ble_eq_true rfl) ⟨Nat.le_of_ble_eq_true rfl, Nat.le_of_ble_eq_true rfl⟩ dX10_begin_94 rfl (st := []) (fun I_187 J_188 h_189 => ?_)
  obtain ⟨g_192, f_191, v_193, v_194, v_195, v_196⟩ := h_189
  refine g_aload_n C 3 dX10_begin_97 rfl rfl ?_
  refine g_iconst C (v := 0) dX10_begin_98 (by decide) ?_
  refine h_putI C K hLt hkt f_10_49 p_10_11 dX10_begin_99 (fun I_197 hI_197 => ?_)
  refine g_aload_n C 3 dX10_begin_102 rfl rfl ?_
  refine g_iconst C (v := 0) dX10_begin_103 (by decide) ?_
  refine h_putI C K hLt hkt f_10_52 p_10_12 dX10_begin_104 (fun I_198 hI_198 => ?_)
  refine g_aload_n C 3 dX10_begin_107 rfl rfl ?_
  refine g_iconst C (v := (-1)) dX10_begin_108 (by decide) ?_
  refine h_putI C K hLt hkt f_10_36 p_10_7 dX10_begin_109 (fun I_199 hI_199 => ?_)
  refine g_aload_n C 3 dX10_begin_112 rfl rfl ?_
  obtain ⟨b_204, hb_204, hb_204L, hb_204k, hb_204n, hb_204o⟩ := shp_a (W9 t hLt) hkt 2 14 901 rfl (by decide)
  obtain ⟨b_205, hb_205, hb_205L, hb_205k, hb_205n, hb_205o⟩ := shp_a (W9 t hLt) hkt 3 14 901 rfl (by decide)
  refine g_callVV C K (c_Tape_advance0 W9 hLt hkt (by rw [hI_199, u2_j (by decide), hI_198, u2_j (by decide), hI_197, u2_j (by decide)]; exact v_194) (by rw [hI_199]; exact u2_s) (x := 102) (y := 0) (fun b hb => by rw [hb_204] at hb; cases hb; exact (by rw [hI_199, u2_j (by decide), hI_198, u2_j (by decide), hI_197, u2_j (by decide)]; exact v_195 b_204 hb_204)) (fun b hb => by rw [hb_205] at hb; cases hb; exact (by rw [hI_199, u2_j (by decide), hI_198, u2_j (by decide), hI_197, u2_j (by decide)]; exact v_196 b_205 hb_205))) hLt hkt (by decide) rfl v_10_84 rfl ⟨rfl, rfl⟩ ⟨Nat.le_of_ble_eq_true rfl, Nat.le_of_ble_eq_true rfl⟩ (Nat.le_of_ble_eq_true rfl) ⟨Nat.le_of_ble_eq_true rfl, Nat.le_of_ble_eq_true rfl⟩ dX10_begin_113 rfl (st := []) (fun I_200 J_201 h_202 => ?_)
  obtain ⟨g_207, f_206, v_208, v_209, v_210⟩ := h_202
  exact g_vret B K rfl (⟨((Fj.rf).tr g_192 (by decide)).tr g_207 (by decide), ((((((Fk.rf).u2 hI_186 hkt (by decide)).tr f_191 (by decide)).u2 hI_197 hkt (by decide)).u2 hI_198 hkt (by decide)).u2 hI_199 hkt (by decide)).tr f_206 (by decide), by rw [v_208 5 (by decide) (by decide) (by decide), hI_199, u2_j (by decide), hI_198, u2_j (by decide), hI_197, u2_j (by decide), v_193 5 (by decide), hI_186, u2_j (by decide)]; exact h5, v_209, v_210, by rw [v_208 11 (by decide) (by decide) (by decide), hI_199, u2_j (by decide), hI_198, u2_j (by decide), hI_197]; exact u2_s, by rw [v_208 12 (by decide) (by decide) (by decide), hI_199, u2_j (by decide), hI_198]; exact u2_s⟩) dX10_begin_116
set_option maxRecDepth 100000 in
set_option maxHeartbeats 4000000 in
theorem c_Tape_fail0 {l : Launch} {D : va_G} {cy : Nat → ClassId} {L : List Nat} {κ ln : Nat → Nat} {R : Nat → Nat → Option Nat} {I : Nat → Nat → Int32} {J : Nat → Nat → Int64} {t : Nat} (hLt : t ∈ L) (hkt : κ t = 10) (h11 : I t 11 = 0) (x y : Int32) (h9 : I t 9 = y) : CtI l yX10_fail cX10_fail 2 (some .boolean) { frames := 0, cells := 0, slots := 0, locals := 0 } D cy L κ ln R I J [.ref t, .int x] (fun r I2 J2 => J = J2 ∧ Fk κ [10] I I2 ∧ I2 t 11 = x ∧ I2 t 12 = y ∧ r = 0) := by
  refine CtI.of (by decide +kernel) (Nat.le_of_ble_eq_true rfl) ?_
  intro p e s m below meth c B K
  have C := B.1
  refine g_lo (is := [0, 1]) (lo2 := [(0, .ref t), (1, .int x)]) rfl ?_
  refine g_aload_n C 0 dX10_fail_0 rfl rfl ?_
  refine g_getI C K hLt hkt f_10_49 (v := 0) (h11) dX10_fail_1 ?_
  refine n_if_ne C (tgt := 20) (by decide) dX10_fail_4 (by decide) ?_
  refine g_aload_n C 0 dX10_fail_7 rfl rfl ?_
  refine g_iload_n C 1 dX10_fail_8 rfl rfl ?_
  refine h_putI C K hLt hkt f_10_49 p_10_11 dX10_fail_9 (fun I_211 hI_211 => ?_)
  refine g_aload_n C 0 dX10_fail_12 rfl rfl ?_
  refine g_aload_n C 0 dX10_fail_13 rfl rfl ?_
  refine g_getI C K hLt hkt f_10_42 (v := y) (by rw [hI_211, u2_j (by decide)]; exact h9) dX10_fail_14 ?_
  refine h_putI C K hLt hkt f_10_52 p_10_12 dX10_fail_17 (fun I_212 hI_212 => ?_)
  refine g_iconst C (v := 0) dX10_fail_20 (by decide) ?_
  exact g_zret (ty := .boolean) (r := 0) B K rfl (by decide) (⟨rfl, ((Fk.rf).u2 hI_211 hkt (by decide)).u2 hI_212 hkt (by decide), by rw [hI_212, u2_j (by decide), hI_211]; exact u2_s, by rw [hI_212]; exact u2_s, rfl⟩) dX10_fail_21
set_option maxRecDepth 100000 in
set_option maxHeartbeats 4000000 in
theorem c_Tape_byteOf0_0 {l : Launch} {D : va_G} {cy : Nat → ClassId} {L : List Nat} {κ ln : Nat → Nat} {R : Nat → Nat → Option Nat} {I : Nat → Nat → Int32} {J : Nat → Nat → Int64} {t : Nat} (hLt : t ∈ L) (hkt : κ t = 10) (h5 : I t 5 = 0) : CtI l yX10_byteOf cX10_byteOf 2 (some .int) { frames := 0, cells := 0, slots := 0, locals := 0 } D cy L κ ln R I J [.ref t, .int 0] (fun r I2 J2 => I = I2 ∧ J = J2 ∧ r = -1) := by
  refine CtI.of (by decide +kernel) (Nat.le_of_ble_eq_true rfl) ?_
  intro p e s m below meth c B K
  have C := B.1
  refine g_lo (is := [0, 1]) (lo2 := [(0, .ref t), (1, .int 0)]) rfl ?_
  refine g_iload_n C 1 dX10_byteOf_0 rfl rfl ?_
  refine n_if_lt C (tgt := 34) (by decide) dX10_byteOf_1 (by decide) ?_
  refine g_iload_n C 1 dX10_byteOf_4 rfl rfl ?_
  refine g_aload_n C 0 dX10_byteOf_5 rfl rfl ?_
  refine g_getI C K hLt hkt f_10_29 (v := 0) (h5) dX10_byteOf_6 ?_
  refine t_icmp_ge C (tgt := 34) (by decide) dX10_byteOf_9 (by decide) ?_
  refine g_iconst C (v := (-1)) dX10_byteOf_34 (by decide) ?_
  exact g_zret (ty := .int) (r := (-1)) B K rfl rfl (⟨rfl, rfl, rfl⟩) dX10_byteOf_35
set_option maxRecDepth 100000 in
set_option maxHeartbeats 4000000 in
theorem c_Tape_byteOf0_1 {l : Launch} {D : va_G} {cy : Nat → ClassId} {L : List Nat} {κ ln : Nat → Nat} {R : Nat → Nat → Option Nat} {I : Nat → Nat → Int32} {J : Nat → Nat → Int64} {t : Nat} (hLt : t ∈ L) (hkt : κ t = 10) (h5 : I t 5 = 0) : CtI l yX10_byteOf cX10_byteOf 2 (some .int) { frames := 0, cells := 0, slots := 0, locals := 0 } D cy L κ ln R I J [.ref t, .int 1] (fun r I2 J2 => I = I2 ∧ J = J2 ∧ r = -1) := by
  refine CtI.of (by decide +kernel) (Nat.le_of_ble_eq_true rfl) ?_
  intro p e s m below meth c B K
  have C := B.1
  refine g_lo (is := [0, 1]) (lo2 := [(0, .ref t), (1, .int 1)]) rfl ?_
  refine g_iload_n C 1 dX10_byteOf_0 rfl rfl ?_
  refine n_if_lt C (tgt := 34) (by decide) dX10_byteOf_1 (by decide) ?_
  refine g_iload_n C 1 dX10_byteOf_4 rfl rfl ?_
  refine g_aload_n C 0 dX10_byteOf_5 rfl rfl ?_
  refine g_getI C K hLt hkt f_10_29 (v := 0) (h5) dX10_byteOf_6 ?_
  refine t_icmp_ge C (tgt := 34) (by decide) dX10_byteOf_9 (by decide) ?_
  refine g_iconst C (v := (-1)) dX10_byteOf_34 (by decide) ?_
  exact g_zret (ty := .int) (r := (-1)) B K rfl rfl (⟨rfl, rfl, rfl⟩) dX10_byteOf_35
end
section
theorem dX0_judgeBy_0 : decode cX0_judgeBy 0 = .ok (.aload_n 0, 1) := by decide +kernel
theorem dX0_judgeBy_1 : decode cX0_judgeBy 1 = .ok (.iconst 1, 1) := by decide +kernel
theorem dX0_judgeBy_2 : decode cX0_judgeBy 2 = .ok (.putfield 28, 3) := by decide +kernel
theorem dX0_judgeBy_5 : decode cX0_judgeBy 5 = .ok (.aload_n 0, 1) := by decide +kernel
theorem dX0_judgeBy_6 : decode cX0_judgeBy 6 = .ok (.iconst 0, 1) := by decide +kernel
theorem dX0_judgeBy_7 : decode cX0_judgeBy 7 = .ok (.putfield 32, 3) := by decide +kernel
theorem dX0_judgeBy_10 : decode cX0_judgeBy 10 = .ok (.aload_n 0, 1) := by decide +kernel
theorem dX0_judgeBy_11 : decode cX0_judgeBy 11 = .ok (.iconst 0, 1) := by decide +kernel
theorem dX0_judgeBy_12 : decode cX0_judgeBy 12 = .ok (.putfield 35, 3) := by decide +kernel
theorem dX0_judgeBy_15 : decode cX0_judgeBy 15 = .ok (.aload_n 0, 1) := by decide +kernel
theorem dX0_judgeBy_16 : decode cX0_judgeBy 16 = .ok (.getfield 35, 3) := by decide +kernel
theorem dX0_judgeBy_19 : decode cX0_judgeBy 19 = .ok (.aload_n 0, 1) := by decide +kernel
theorem dX0_judgeBy_20 : decode cX0_judgeBy 20 = .ok (.getfield 24, 3) := by decide +kernel
theorem dX0_judgeBy_23 : decode cX0_judgeBy 23 = .ok (.if_icmp .ge 43, 3) := by decide +kernel
theorem dX0_judgeBy_66 : decode cX0_judgeBy 66 = .ok (.aload_n 0, 1) := by decide +kernel
theorem dX0_judgeBy_67 : decode cX0_judgeBy 67 = .ok (.aload_n 1, 1) := by decide +kernel
theorem dX0_judgeBy_68 : decode cX0_judgeBy 68 = .ok (.getfield 98, 3) := by decide +kernel
theorem dX0_judgeBy_71 : decode cX0_judgeBy 71 = .ok (.putfield 38, 3) := by decide +kernel
theorem dX0_judgeBy_74 : decode cX0_judgeBy 74 = .ok (.aload_n 0, 1) := by decide +kernel
theorem dX0_judgeBy_75 : decode cX0_judgeBy 75 = .ok (.aload_n 1, 1) := by decide +kernel
theorem dX0_judgeBy_76 : decode cX0_judgeBy 76 = .ok (.getfield 103, 3) := by decide +kernel
theorem dX0_judgeBy_79 : decode cX0_judgeBy 79 = .ok (.putfield 41, 3) := by decide +kernel
theorem dX0_judgeBy_82 : decode cX0_judgeBy 82 = .ok (.return_, 1) := by decide +kernel
theorem dX0_readFrom_0 : decode cX0_readFrom 0 = .ok (.aload_n 1, 1) := by decide +kernel
theorem dX0_readFrom_1 : decode cX0_readFrom 1 = .ok (.sipush 400, 3) := by decide +kernel
theorem dX0_readFrom_4 : decode cX0_readFrom 4 = .ok (.invokevirtual 44, 3) := by decide +kernel
theorem dX0_readFrom_7 : decode cX0_readFrom 7 = .ok (.aload_n 0, 1) := by decide +kernel
theorem dX0_readFrom_8 : decode cX0_readFrom 8 = .ok (.iconst 0, 1) := by decide +kernel
theorem dX0_readFrom_9 : decode cX0_readFrom 9 = .ok (.putfield 24, 3) := by decide +kernel
theorem dX0_readFrom_12 : decode cX0_readFrom 12 = .ok (.aload_n 0, 1) := by decide +kernel
theorem dX0_readFrom_13 : decode cX0_readFrom 13 = .ok (.getfield 24, 3) := by decide +kernel
theorem dX0_readFrom_16 : decode cX0_readFrom 16 = .ok (.bipush 40, 2) := by decide +kernel
theorem dX0_readFrom_18 : decode cX0_readFrom 18 = .ok (.if_icmp .gt 34, 3) := by decide +kernel
theorem dX0_readFrom_21 : decode cX0_readFrom 21 = .ok (.aload_n 1, 1) := by decide +kernel
theorem dX0_readFrom_22 : decode cX0_readFrom 22 = .ok (.getfield 50, 3) := by decide +kernel
theorem dX0_readFrom_25 : decode cX0_readFrom 25 = .ok (.bipush 102, 2) := by decide +kernel
theorem dX0_readFrom_27 : decode cX0_readFrom 27 = .ok (.if_icmp .eq 25, 3) := by decide +kernel
theorem dX0_readFrom_52 : decode cX0_readFrom 52 = .ok (.return_, 1) := by decide +kernel
theorem dX1_allEaten_0 : decode cX1_allEaten 0 = .ok (.iconst 0, 1) := by decide +kernel
theorem dX1_allEaten_1 : decode cX1_allEaten 1 = .ok (.istore_n 1, 1) := by decide +kernel
theorem dX1_allEaten_2 : decode cX1_allEaten 2 = .ok (.iconst 0, 1) := by decide +kernel
theorem dX1_allEaten_3 : decode cX1_allEaten 3 = .ok (.istore_n 2, 1) := by decide +kernel
theorem dX1_allEaten_4 : decode cX1_allEaten 4 = .ok (.iload_n 2, 1) := by decide +kernel
theorem dX1_allEaten_5 : decode cX1_allEaten 5 = .ok (.aload_n 0, 1) := by decide +kernel
theorem dX1_allEaten_6 : decode cX1_allEaten 6 = .ok (.getfield 52, 3) := by decide +kernel
theorem dX1_allEaten_9 : decode cX1_allEaten 9 = .ok (.getfield 68, 3) := by decide +kernel
theorem dX1_allEaten_12 : decode cX1_allEaten 12 = .ok (.if_icmp .ge 18, 3) := by decide +kernel
theorem dX1_allEaten_30 : decode cX1_allEaten 30 = .ok (.iload_n 1, 1) := by decide +kernel
theorem dX1_allEaten_31 : decode cX1_allEaten 31 = .ok (.ireturn, 1) := by decide +kernel
theorem dX1_allHunger_0 : decode cX1_allHunger 0 = .ok (.iconst 0, 1) := by decide +kernel
theorem dX1_allHunger_1 : decode cX1_allHunger 1 = .ok (.istore_n 1, 1) := by decide +kernel
theorem dX1_allHunger_2 : decode cX1_allHunger 2 = .ok (.iconst 0, 1) := by decide +kernel
theorem dX1_allHunger_3 : decode cX1_allHunger 3 = .ok (.istore_n 2, 1) := by decide +kernel
theorem dX1_allHunger_4 : decode cX1_allHunger 4 = .ok (.iload_n 2, 1) := by decide +kernel
theorem dX1_allHunger_5 : decode cX1_allHunger 5 = .ok (.aload_n 0, 1) := by decide +kernel
theorem dX1_allHunger_6 : decode cX1_allHunger 6 = .ok (.getfield 52, 3) := by decide +kernel
theorem dX1_allHunger_9 : decode cX1_allHunger 9 = .ok (.getfield 68, 3) := by decide +kernel
theorem dX1_allHunger_12 : decode cX1_allHunger 12 = .ok (.if_icmp .ge 18, 3) := by decide +kernel
theorem dX1_allHunger_30 : decode cX1_allHunger 30 = .ok (.iload_n 1, 1) := by decide +kernel
theorem dX1_allHunger_31 : decode cX1_allHunger 31 = .ok (.ireturn, 1) := by decide +kernel
theorem dX1_endMeal_0 : decode cX1_endMeal 0 = .ok (.iconst 0, 1) := by decide +kernel
theorem dX1_endMeal_1 : decode cX1_endMeal 1 = .ok (.istore_n 1, 1) := by decide +kernel
theorem dX1_endMeal_2 : decode cX1_endMeal 2 = .ok (.iload_n 1, 1) := by decide +kernel
theorem dX1_endMeal_3 : decode cX1_endMeal 3 = .ok (.aload_n 0, 1) := by decide +kernel
theorem dX1_endMeal_4 : decode cX1_endMeal 4 = .ok (.getfield 52, 3) := by decide +kernel
theorem dX1_endMeal_7 : decode cX1_endMeal 7 = .ok (.getfield 68, 3) := by decide +kernel
theorem dX1_endMeal_10 : decode cX1_endMeal 10 = .ok (.if_icmp .ge 94, 3) := by decide +kernel
theorem dX1_endMeal_104 : decode cX1_endMeal 104 = .ok (.aload_n 0, 1) := by decide +kernel
theorem dX1_endMeal_105 : decode cX1_endMeal 105 = .ok (.dup, 1) := by decide +kernel
theorem dX1_endMeal_106 : decode cX1_endMeal 106 = .ok (.getfield 37, 3) := by decide +kernel
theorem dX1_endMeal_109 : decode cX1_endMeal 109 = .ok (.iconst 1, 1) := by decide +kernel
theorem dX1_endMeal_110 : decode cX1_endMeal 110 = .ok (.iadd, 1) := by decide +kernel
theorem dX1_endMeal_111 : decode cX1_endMeal 111 = .ok (.putfield 37, 3) := by decide +kernel
theorem dX1_endMeal_114 : decode cX1_endMeal 114 = .ok (.return_, 1) := by decide +kernel
theorem dX1_letMealsGo_0 : decode cX1_letMealsGo 0 = .ok (.iconst 0, 1) := by decide +kernel
theorem dX1_letMealsGo_1 : decode cX1_letMealsGo 1 = .ok (.istore_n 2, 1) := by decide +kernel
theorem dX1_letMealsGo_2 : decode cX1_letMealsGo 2 = .ok (.iload_n 2, 1) := by decide +kernel
theorem dX1_letMealsGo_3 : decode cX1_letMealsGo 3 = .ok (.iload_n 1, 1) := by decide +kernel
theorem dX1_letMealsGo_4 : decode cX1_letMealsGo 4 = .ok (.if_icmp .ge 23, 3) := by decide +kernel
theorem dX1_letMealsGo_7 : decode cX1_letMealsGo 7 = .ok (.aload_n 0, 1) := by decide +kernel
theorem dX1_letMealsGo_8 : decode cX1_letMealsGo 8 = .ok (.getfield 37, 3) := by decide +kernel
theorem dX1_letMealsGo_11 : decode cX1_letMealsGo 11 = .ok (.sipush 200, 3) := by decide +kernel
theorem dX1_letMealsGo_14 : decode cX1_letMealsGo 14 = .ok (.if_icmp .ge 13, 3) := by decide +kernel
theorem dX1_letMealsGo_17 : decode cX1_letMealsGo 17 = .ok (.aload_n 0, 1) := by decide +kernel
theorem dX1_letMealsGo_18 : decode cX1_letMealsGo 18 = .ok (.invokevirtual 126, 3) := by decide +kernel
theorem dX1_letMealsGo_21 : decode cX1_letMealsGo 21 = .ok (.iinc 2 1, 3) := by decide +kernel
theorem dX1_letMealsGo_24 : decode cX1_letMealsGo 24 = .ok (.goto (-22), 3) := by decide +kernel
theorem dX1_letMealsGo_27 : decode cX1_letMealsGo 27 = .ok (.iload_n 2, 1) := by decide +kernel
theorem dX1_letMealsGo_28 : decode cX1_letMealsGo 28 = .ok (.ireturn, 1) := by decide +kernel
theorem dX1_living_0 : decode cX1_living 0 = .ok (.aload_n 0, 1) := by decide +kernel
theorem dX1_living_1 : decode cX1_living 1 = .ok (.getfield 52, 3) := by decide +kernel
theorem dX1_living_4 : decode cX1_living 4 = .ok (.invokevirtual 62, 3) := by decide +kernel
theorem dX1_living_7 : decode cX1_living 7 = .ok (.aload_n 0, 1) := by decide +kernel
theorem dX1_living_8 : decode cX1_living 8 = .ok (.getfield 30, 3) := by decide +kernel
theorem dX1_living_11 : decode cX1_living 11 = .ok (.iconst (-1), 1) := by decide +kernel
theorem dX1_living_12 : decode cX1_living 12 = .ok (.ixor, 1) := by decide +kernel
theorem dX1_living_13 : decode cX1_living 13 = .ok (.iand, 1) := by decide +kernel
theorem dX1_living_14 : decode cX1_living 14 = .ok (.ireturn, 1) := by decide +kernel
theorem dX3_keep_0 : decode cX3_keep 0 = .ok (.aload_n 0, 1) := by decide +kernel
theorem dX3_keep_1 : decode cX3_keep 1 = .ok (.getfield 10, 3) := by decide +kernel
theorem dX3_keep_4 : decode cX3_keep 4 = .ok (.aload_n 1, 1) := by decide +kernel
theorem dX3_keep_5 : decode cX3_keep 5 = .ok (.invokevirtual 36, 3) := by decide +kernel
theorem dX3_keep_8 : decode cX3_keep 8 = .ok (.aload_n 0, 1) := by decide +kernel
theorem dX3_keep_9 : decode cX3_keep 9 = .ok (.getfield 21, 3) := by decide +kernel
theorem dX3_keep_12 : decode cX3_keep 12 = .ok (.aload_n 2, 1) := by decide +kernel
theorem dX3_keep_13 : decode cX3_keep 13 = .ok (.invokevirtual 39, 3) := by decide +kernel
theorem dX3_keep_16 : decode cX3_keep 16 = .ok (.aload_n 0, 1) := by decide +kernel
theorem dX3_keep_17 : decode cX3_keep 17 = .ok (.getfield 28, 3) := by decide +kernel
theorem dX3_keep_20 : decode cX3_keep 20 = .ok (.aload_n 3, 1) := by decide +kernel
theorem dX3_keep_21 : decode cX3_keep 21 = .ok (.invokevirtual 42, 3) := by decide +kernel
theorem dX3_keep_24 : decode cX3_keep 24 = .ok (.aload_n 0, 1) := by decide +kernel
theorem dX3_keep_25 : decode cX3_keep 25 = .ok (.iconst 1, 1) := by decide +kernel
theorem dX3_keep_26 : decode cX3_keep 26 = .ok (.putfield 32, 3) := by decide +kernel
theorem dX3_keep_29 : decode cX3_keep 29 = .ok (.return_, 1) := by decide +kernel
theorem dX4_findFrom_0 : decode cX4_findFrom 0 = .ok (.aload_n 0, 1) := by decide +kernel
theorem dX4_findFrom_1 : decode cX4_findFrom 1 = .ok (.aload_n 1, 1) := by decide +kernel
theorem dX4_findFrom_2 : decode cX4_findFrom 2 = .ok (.invokevirtual 34, 3) := by decide +kernel
theorem dX4_findFrom_5 : decode cX4_findFrom 5 = .ok (.invokestatic 38, 3) := by decide +kernel
theorem dX4_findFrom_8 : decode cX4_findFrom 8 = .ok (.putfield 24, 3) := by decide +kernel
theorem dX4_findFrom_11 : decode cX4_findFrom 11 = .ok (.aload_n 0, 1) := by decide +kernel
theorem dX4_findFrom_12 : decode cX4_findFrom 12 = .ok (.sipush 1000, 3) := by decide +kernel
theorem dX4_findFrom_15 : decode cX4_findFrom 15 = .ok (.putfield 28, 3) := by decide +kernel
theorem dX4_findFrom_18 : decode cX4_findFrom 18 = .ok (.aload_n 0, 1) := by decide +kernel
theorem dX4_findFrom_19 : decode cX4_findFrom 19 = .ok (.getfield 11, 3) := by decide +kernel
theorem dX4_findFrom_22 : decode cX4_findFrom 22 = .ok (.iconst 0, 1) := by decide +kernel
theorem dX4_findFrom_23 : decode cX4_findFrom 23 = .ok (.aaload, 1) := by decide +kernel
theorem dX4_findFrom_24 : decode cX4_findFrom 24 = .ok (.aload_n 1, 1) := by decide +kernel
theorem dX4_findFrom_25 : decode cX4_findFrom 25 = .ok (.invokevirtual 44, 3) := by decide +kernel
theorem dX4_findFrom_28 : decode cX4_findFrom 28 = .ok (.aload_n 0, 1) := by decide +kernel
theorem dX4_findFrom_29 : decode cX4_findFrom 29 = .ok (.iconst 0, 1) := by decide +kernel
theorem dX4_findFrom_30 : decode cX4_findFrom 30 = .ok (.aload_n 1, 1) := by decide +kernel
theorem dX4_findFrom_31 : decode cX4_findFrom 31 = .ok (.invokevirtual 34, 3) := by decide +kernel
theorem dX4_findFrom_34 : decode cX4_findFrom 34 = .ok (.iconst 0, 1) := by decide +kernel
theorem dX4_findFrom_35 : decode cX4_findFrom 35 = .ok (.invokevirtual 48, 3) := by decide +kernel
theorem dX4_findFrom_38 : decode cX4_findFrom 38 = .ok (.aload_n 0, 1) := by decide +kernel
theorem dX4_findFrom_39 : decode cX4_findFrom 39 = .ok (.getfield 28, 3) := by decide +kernel
theorem dX4_findFrom_42 : decode cX4_findFrom 42 = .ok (.ireturn, 1) := by decide +kernel
theorem dX4_goOn_0 : decode cX4_goOn 0 = .ok (.iload_n 2, 1) := by decide +kernel
theorem dX4_goOn_1 : decode cX4_goOn 1 = .ok (.ifCond .eq 9, 3) := by decide +kernel
theorem dX4_goOn_10 : decode cX4_goOn 10 = .ok (.aload_n 0, 1) := by decide +kernel
theorem dX4_goOn_11 : decode cX4_goOn 11 = .ok (.iload_n 3, 1) := by decide +kernel
theorem dX4_goOn_12 : decode cX4_goOn 12 = .ok (.putfield 28, 3) := by decide +kernel
theorem dX4_goOn_15 : decode cX4_goOn 15 = .ok (.aload_n 0, 1) := by decide +kernel
theorem dX4_goOn_16 : decode cX4_goOn 16 = .ok (.getfield 17, 3) := by decide +kernel
theorem dX4_goOn_19 : decode cX4_goOn 19 = .ok (.iconst 0, 1) := by decide +kernel
theorem dX4_goOn_20 : decode cX4_goOn 20 = .ok (.aload_n 0, 1) := by decide +kernel
theorem dX4_goOn_21 : decode cX4_goOn 21 = .ok (.getfield 21, 3) := by decide +kernel
theorem dX4_goOn_24 : decode cX4_goOn 24 = .ok (.iconst 0, 1) := by decide +kernel
theorem dX4_goOn_25 : decode cX4_goOn 25 = .ok (.bipush 7, 2) := by decide +kernel
theorem dX4_goOn_27 : decode cX4_goOn 27 = .ok (.invokestatic 52, 3) := by decide +kernel
theorem dX4_goOn_30 : decode cX4_goOn 30 = .ok (.return_, 1) := by decide +kernel
theorem dX5_forget_0 : decode cX5_forget 0 = .ok (.aload_n 0, 1) := by decide +kernel
theorem dX5_forget_1 : decode cX5_forget 1 = .ok (.iconst 0, 1) := by decide +kernel
theorem dX5_forget_2 : decode cX5_forget 2 = .ok (.putfield 17, 3) := by decide +kernel
theorem dX5_forget_5 : decode cX5_forget 5 = .ok (.return_, 1) := by decide +kernel
theorem dX5_keepNoted_0 : decode cX5_keepNoted 0 = .ok (.aload_n 0, 1) := by decide +kernel
theorem dX5_keepNoted_1 : decode cX5_keepNoted 1 = .ok (.aload_n 0, 1) := by decide +kernel
theorem dX5_keepNoted_2 : decode cX5_keepNoted 2 = .ok (.getfield 21, 3) := by decide +kernel
theorem dX5_keepNoted_5 : decode cX5_keepNoted 5 = .ok (.iconst 1, 1) := by decide +kernel
theorem dX5_keepNoted_6 : decode cX5_keepNoted 6 = .ok (.iadd, 1) := by decide +kernel
theorem dX5_keepNoted_7 : decode cX5_keepNoted 7 = .ok (.bipush 9, 2) := by decide +kernel
theorem dX5_keepNoted_9 : decode cX5_keepNoted 9 = .ok (.if_icmp .ge 12, 3) := by decide +kernel
theorem dX5_keepNoted_12 : decode cX5_keepNoted 12 = .ok (.aload_n 0, 1) := by decide +kernel
theorem dX5_keepNoted_13 : decode cX5_keepNoted 13 = .ok (.getfield 21, 3) := by decide +kernel
theorem dX5_keepNoted_16 : decode cX5_keepNoted 16 = .ok (.iconst 1, 1) := by decide +kernel
theorem dX5_keepNoted_17 : decode cX5_keepNoted 17 = .ok (.iadd, 1) := by decide +kernel
theorem dX5_keepNoted_18 : decode cX5_keepNoted 18 = .ok (.goto 4, 3) := by decide +kernel
theorem dX5_keepNoted_22 : decode cX5_keepNoted 22 = .ok (.putfield 21, 3) := by decide +kernel
theorem dX5_keepNoted_25 : decode cX5_keepNoted 25 = .ok (.aload_n 0, 1) := by decide +kernel
theorem dX5_keepNoted_26 : decode cX5_keepNoted 26 = .ok (.aload_n 0, 1) := by decide +kernel
theorem dX5_keepNoted_27 : decode cX5_keepNoted 27 = .ok (.getfield 17, 3) := by decide +kernel
theorem dX5_keepNoted_30 : decode cX5_keepNoted 30 = .ok (.iconst 1, 1) := by decide +kernel
theorem dX5_keepNoted_31 : decode cX5_keepNoted 31 = .ok (.iadd, 1) := by decide +kernel
theorem dX5_keepNoted_32 : decode cX5_keepNoted 32 = .ok (.bipush 8, 2) := by decide +kernel
theorem dX5_keepNoted_34 : decode cX5_keepNoted 34 = .ok (.invokestatic 31, 3) := by decide +kernel
theorem dX5_keepNoted_37 : decode cX5_keepNoted 37 = .ok (.putfield 17, 3) := by decide +kernel
theorem dX5_keepNoted_40 : decode cX5_keepNoted 40 = .ok (.return_, 1) := by decide +kernel
theorem dX5_note_0 : decode cX5_note 0 = .ok (.aload_n 0, 1) := by decide +kernel
theorem dX5_note_1 : decode cX5_note 1 = .ok (.getfield 13, 3) := by decide +kernel
theorem dX5_note_4 : decode cX5_note 4 = .ok (.aload_n 0, 1) := by decide +kernel
theorem dX5_note_5 : decode cX5_note 5 = .ok (.getfield 21, 3) := by decide +kernel
theorem dX5_note_8 : decode cX5_note 8 = .ok (.aaload, 1) := by decide +kernel
theorem dX5_note_9 : decode cX5_note 9 = .ok (.aload_n 1, 1) := by decide +kernel
theorem dX5_note_10 : decode cX5_note 10 = .ok (.invokevirtual 27, 3) := by decide +kernel
theorem dX5_note_13 : decode cX5_note 13 = .ok (.return_, 1) := by decide +kernel
theorem dX5_takeBack_0 : decode cX5_takeBack 0 = .ok (.aload_n 0, 1) := by decide +kernel
theorem dX5_takeBack_1 : decode cX5_takeBack 1 = .ok (.getfield 17, 3) := by decide +kernel
theorem dX5_takeBack_4 : decode cX5_takeBack 4 = .ok (.ifCond .ne 5, 3) := by decide +kernel
theorem dX5_takeBack_7 : decode cX5_takeBack 7 = .ok (.iconst (-1), 1) := by decide +kernel
theorem dX5_takeBack_8 : decode cX5_takeBack 8 = .ok (.ireturn, 1) := by decide +kernel
theorem dX6_parentsAmong_0 : decode cX6_parentsAmong 0 = .ok (.iconst 0, 1) := by decide +kernel
theorem dX6_parentsAmong_1 : decode cX6_parentsAmong 1 = .ok (.istore_n 3, 1) := by decide +kernel
theorem dX6_parentsAmong_2 : decode cX6_parentsAmong 2 = .ok (.iconst 0, 1) := by decide +kernel
theorem dX6_parentsAmong_3 : decode cX6_parentsAmong 3 = .ok (.istore 4, 2) := by decide +kernel
theorem dX6_parentsAmong_5 : decode cX6_parentsAmong 5 = .ok (.iload 4, 2) := by decide +kernel
theorem dX6_parentsAmong_7 : decode cX6_parentsAmong 7 = .ok (.aload_n 0, 1) := by decide +kernel
theorem dX6_parentsAmong_8 : decode cX6_parentsAmong 8 = .ok (.getfield 33, 3) := by decide +kernel
theorem dX6_parentsAmong_11 : decode cX6_parentsAmong 11 = .ok (.if_icmp .ge 32, 3) := by decide +kernel
theorem dX6_parentsAmong_43 : decode cX6_parentsAmong 43 = .ok (.iload_n 3, 1) := by decide +kernel
theorem dX6_parentsAmong_44 : decode cX6_parentsAmong 44 = .ok (.ireturn, 1) := by decide +kernel
theorem dX6_seat_0 : decode cX6_seat 0 = .ok (.aload_n 1, 1) := by decide +kernel
theorem dX6_seat_1 : decode cX6_seat 1 = .ok (.getfield 19, 3) := by decide +kernel
theorem dX6_seat_4 : decode cX6_seat 4 = .ok (.astore_n 2, 1) := by decide +kernel
theorem dX6_seat_5 : decode cX6_seat 5 = .ok (.aload_n 1, 1) := by decide +kernel
theorem dX6_seat_6 : decode cX6_seat 6 = .ok (.invokevirtual 25, 3) := by decide +kernel
theorem dX6_seat_9 : decode cX6_seat 9 = .ok (.istore_n 3, 1) := by decide +kernel
theorem dX6_seat_10 : decode cX6_seat 10 = .ok (.aload_n 2, 1) := by decide +kernel
theorem dX6_seat_11 : decode cX6_seat 11 = .ok (.iload_n 3, 1) := by decide +kernel
theorem dX6_seat_12 : decode cX6_seat 12 = .ok (.iload_n 3, 1) := by decide +kernel
theorem dX6_seat_13 : decode cX6_seat 13 = .ok (.invokestatic 29, 3) := by decide +kernel
theorem dX6_seat_16 : decode cX6_seat 16 = .ok (.istore 4, 2) := by decide +kernel
theorem dX6_seat_18 : decode cX6_seat 18 = .ok (.iconst 0, 1) := by decide +kernel
theorem dX6_seat_19 : decode cX6_seat 19 = .ok (.istore 5, 2) := by decide +kernel
theorem dX6_seat_21 : decode cX6_seat 21 = .ok (.iconst (-1), 1) := by decide +kernel
theorem dX6_seat_22 : decode cX6_seat 22 = .ok (.istore 6, 2) := by decide +kernel
theorem dX6_seat_24 : decode cX6_seat 24 = .ok (.aload_n 0, 1) := by decide +kernel
theorem dX6_seat_25 : decode cX6_seat 25 = .ok (.iconst 0, 1) := by decide +kernel
theorem dX6_seat_26 : decode cX6_seat 26 = .ok (.putfield 15, 3) := by decide +kernel
theorem dX6_seat_29 : decode cX6_seat 29 = .ok (.iconst 0, 1) := by decide +kernel
theorem dX6_seat_30 : decode cX6_seat 30 = .ok (.istore 7, 2) := by decide +kernel
theorem dX6_seat_32 : decode cX6_seat 32 = .ok (.iload 7, 2) := by decide +kernel
theorem dX6_seat_34 : decode cX6_seat 34 = .ok (.aload_n 2, 1) := by decide +kernel
theorem dX6_seat_35 : decode cX6_seat 35 = .ok (.getfield 33, 3) := by decide +kernel
theorem dX6_seat_38 : decode cX6_seat 38 = .ok (.if_icmp .ge 92, 3) := by decide +kernel
theorem dX6_seat_130 : decode cX6_seat 130 = .ok (.iload 5, 2) := by decide +kernel
theorem dX6_seat_132 : decode cX6_seat 132 = .ok (.ireturn, 1) := by decide +kernel
theorem dX7_become_0 : decode cX7_become 0 = .ok (.aload_n 1, 1) := by decide +kernel
theorem dX7_become_1 : decode cX7_become 1 = .ok (.getfield 11, 3) := by decide +kernel
theorem dX7_become_4 : decode cX7_become 4 = .ok (.iconst 0, 1) := by decide +kernel
theorem dX7_become_5 : decode cX7_become 5 = .ok (.aload_n 0, 1) := by decide +kernel
theorem dX7_become_6 : decode cX7_become 6 = .ok (.getfield 11, 3) := by decide +kernel
theorem dX7_become_9 : decode cX7_become 9 = .ok (.iconst 0, 1) := by decide +kernel
theorem dX7_become_10 : decode cX7_become 10 = .ok (.bipush 40, 2) := by decide +kernel
theorem dX7_become_12 : decode cX7_become 12 = .ok (.invokestatic 31, 3) := by decide +kernel
theorem dX7_become_15 : decode cX7_become 15 = .ok (.aload_n 1, 1) := by decide +kernel
theorem dX7_become_16 : decode cX7_become 16 = .ok (.getfield 15, 3) := by decide +kernel
theorem dX7_become_19 : decode cX7_become 19 = .ok (.iconst 0, 1) := by decide +kernel
theorem dX7_become_20 : decode cX7_become 20 = .ok (.aload_n 0, 1) := by decide +kernel
theorem dX7_become_21 : decode cX7_become 21 = .ok (.getfield 15, 3) := by decide +kernel
theorem dX7_become_24 : decode cX7_become 24 = .ok (.iconst 0, 1) := by decide +kernel
theorem dX7_become_25 : decode cX7_become 25 = .ok (.bipush 40, 2) := by decide +kernel
theorem dX7_become_27 : decode cX7_become 27 = .ok (.invokestatic 31, 3) := by decide +kernel
theorem dX7_become_30 : decode cX7_become 30 = .ok (.aload_n 1, 1) := by decide +kernel
theorem dX7_become_31 : decode cX7_become 31 = .ok (.getfield 18, 3) := by decide +kernel
theorem dX7_become_34 : decode cX7_become 34 = .ok (.iconst 0, 1) := by decide +kernel
theorem dX7_become_35 : decode cX7_become 35 = .ok (.aload_n 0, 1) := by decide +kernel
theorem dX7_become_36 : decode cX7_become 36 = .ok (.getfield 18, 3) := by decide +kernel
theorem dX7_become_39 : decode cX7_become 39 = .ok (.iconst 0, 1) := by decide +kernel
theorem dX7_become_40 : decode cX7_become 40 = .ok (.bipush 40, 2) := by decide +kernel
theorem dX7_become_42 : decode cX7_become 42 = .ok (.invokestatic 31, 3) := by decide +kernel
theorem dX7_become_45 : decode cX7_become 45 = .ok (.aload_n 0, 1) := by decide +kernel
theorem dX7_become_46 : decode cX7_become 46 = .ok (.aload_n 1, 1) := by decide +kernel
theorem dX7_become_47 : decode cX7_become 47 = .ok (.getfield 24, 3) := by decide +kernel
theorem dX7_become_50 : decode cX7_become 50 = .ok (.putfield 24, 3) := by decide +kernel
theorem dX7_become_53 : decode cX7_become 53 = .ok (.aload_n 0, 1) := by decide +kernel
theorem dX7_become_54 : decode cX7_become 54 = .ok (.aload_n 1, 1) := by decide +kernel
theorem dX7_become_55 : decode cX7_become 55 = .ok (.getfield 28, 3) := by decide +kernel
theorem dX7_become_58 : decode cX7_become 58 = .ok (.putfield 28, 3) := by decide +kernel
theorem dX7_become_61 : decode cX7_become 61 = .ok (.return_, 1) := by decide +kernel
theorem dX7_beginsOne_0 : decode cX7_beginsOne 0 = .ok (.iload_n 0, 1) := by decide +kernel
theorem dX7_beginsOne_1 : decode cX7_beginsOne 1 = .ok (.bipush 40, 2) := by decide +kernel
theorem dX7_beginsOne_3 : decode cX7_beginsOne 3 = .ok (.if_icmp .eq 20, 3) := by decide +kernel
theorem dX7_beginsOne_6 : decode cX7_beginsOne 6 = .ok (.iload_n 0, 1) := by decide +kernel
theorem dX7_beginsOne_7 : decode cX7_beginsOne 7 = .ok (.iconst 5, 1) := by decide +kernel
theorem dX7_beginsOne_8 : decode cX7_beginsOne 8 = .ok (.if_icmp .eq 15, 3) := by decide +kernel
theorem dX7_beginsOne_11 : decode cX7_beginsOne 11 = .ok (.iload_n 0, 1) := by decide +kernel
theorem dX7_beginsOne_12 : decode cX7_beginsOne 12 = .ok (.bipush 19, 2) := by decide +kernel
theorem dX7_beginsOne_14 : decode cX7_beginsOne 14 = .ok (.if_icmp .lt 13, 3) := by decide +kernel
theorem dX7_beginsOne_17 : decode cX7_beginsOne 17 = .ok (.iload_n 0, 1) := by decide +kernel
theorem dX7_beginsOne_18 : decode cX7_beginsOne 18 = .ok (.bipush 27, 2) := by decide +kernel
theorem dX7_beginsOne_20 : decode cX7_beginsOne 20 = .ok (.if_icmp .gt 7, 3) := by decide +kernel
theorem dX7_beginsOne_27 : decode cX7_beginsOne 27 = .ok (.iconst 0, 1) := by decide +kernel
theorem dX7_beginsOne_28 : decode cX7_beginsOne 28 = .ok (.ireturn, 1) := by decide +kernel
theorem dX7_forget_0 : decode cX7_forget 0 = .ok (.aload_n 0, 1) := by decide +kernel
theorem dX7_forget_1 : decode cX7_forget 1 = .ok (.iconst 0, 1) := by decide +kernel
theorem dX7_forget_2 : decode cX7_forget 2 = .ok (.putfield 24, 3) := by decide +kernel
theorem dX7_forget_5 : decode cX7_forget 5 = .ok (.aload_n 0, 1) := by decide +kernel
theorem dX7_forget_6 : decode cX7_forget 6 = .ok (.iconst 0, 1) := by decide +kernel
theorem dX7_forget_7 : decode cX7_forget 7 = .ok (.putfield 28, 3) := by decide +kernel
theorem dX7_forget_10 : decode cX7_forget 10 = .ok (.return_, 1) := by decide +kernel
theorem dX7_readAll_0 : decode cX7_readAll 0 = .ok (.aload_n 0, 1) := by decide +kernel
theorem dX7_readAll_1 : decode cX7_readAll 1 = .ok (.aload_n 1, 1) := by decide +kernel
theorem dX7_readAll_2 : decode cX7_readAll 2 = .ok (.aload_n 2, 1) := by decide +kernel
theorem dX7_readAll_3 : decode cX7_readAll 3 = .ok (.iload_n 3, 1) := by decide +kernel
theorem dX7_readAll_4 : decode cX7_readAll 4 = .ok (.invokevirtual 67, 3) := by decide +kernel
theorem dX7_readAll_7 : decode cX7_readAll 7 = .ok (.istore 4, 2) := by decide +kernel
theorem dX7_readAll_9 : decode cX7_readAll 9 = .ok (.iconst 0, 1) := by decide +kernel
theorem dX7_readAll_10 : decode cX7_readAll 10 = .ok (.istore 5, 2) := by decide +kernel
theorem dX7_readAll_12 : decode cX7_readAll 12 = .ok (.iload 5, 2) := by decide +kernel
theorem dX7_readAll_14 : decode cX7_readAll 14 = .ok (.bipush 20, 2) := by decide +kernel
theorem dX7_readAll_16 : decode cX7_readAll 16 = .ok (.if_icmp .ge 55, 3) := by decide +kernel
theorem dX7_readAll_19 : decode cX7_readAll 19 = .ok (.iload 4, 2) := by decide +kernel
theorem dX7_readAll_21 : decode cX7_readAll 21 = .ok (.ifCond .eq 50, 3) := by decide +kernel
theorem dX7_readAll_71 : decode cX7_readAll 71 = .ok (.iload 4, 2) := by decide +kernel
theorem dX7_readAll_73 : decode cX7_readAll 73 = .ok (.ireturn, 1) := by decide +kernel
theorem dX7_readCond_0 : decode cX7_readCond 0 = .ok (.aload_n 0, 1) := by decide +kernel
theorem dX7_readCond_1 : decode cX7_readCond 1 = .ok (.aload_n 1, 1) := by decide +kernel
theorem dX7_readCond_2 : decode cX7_readCond 2 = .ok (.aload_n 2, 1) := by decide +kernel
theorem dX7_readCond_3 : decode cX7_readCond 3 = .ok (.iload_n 3, 1) := by decide +kernel
theorem dX7_readCond_4 : decode cX7_readCond 4 = .ok (.invokevirtual 54, 3) := by decide +kernel
theorem dX7_readCond_7 : decode cX7_readCond 7 = .ok (.istore 4, 2) := by decide +kernel
theorem dX7_readCond_9 : decode cX7_readCond 9 = .ok (.iconst 0, 1) := by decide +kernel
theorem dX7_readCond_10 : decode cX7_readCond 10 = .ok (.istore 5, 2) := by decide +kernel
theorem dX7_readCond_12 : decode cX7_readCond 12 = .ok (.iload 5, 2) := by decide +kernel
theorem dX7_readCond_14 : decode cX7_readCond 14 = .ok (.bipush 20, 2) := by decide +kernel
theorem dX7_readCond_16 : decode cX7_readCond 16 = .ok (.if_icmp .ge 55, 3) := by decide +kernel
theorem dX7_readCond_19 : decode cX7_readCond 19 = .ok (.iload 4, 2) := by decide +kernel
theorem dX7_readCond_21 : decode cX7_readCond 21 = .ok (.ifCond .eq 50, 3) := by decide +kernel
theorem dX7_readCond_71 : decode cX7_readCond 71 = .ok (.iload 4, 2) := by decide +kernel
theorem dX7_readCond_73 : decode cX7_readCond 73 = .ok (.ireturn, 1) := by decide +kernel
theorem dX7_readFrom_0 : decode cX7_readFrom 0 = .ok (.aload_n 0, 1) := by decide +kernel
theorem dX7_readFrom_1 : decode cX7_readFrom 1 = .ok (.invokevirtual 37, 3) := by decide +kernel
theorem dX7_readFrom_4 : decode cX7_readFrom 4 = .ok (.aload_n 1, 1) := by decide +kernel
theorem dX7_readFrom_5 : decode cX7_readFrom 5 = .ok (.sipush 200, 3) := by decide +kernel
theorem dX7_readFrom_8 : decode cX7_readFrom 8 = .ok (.invokevirtual 40, 3) := by decide +kernel
theorem dX7_readFrom_11 : decode cX7_readFrom 11 = .ok (.aload_n 0, 1) := by decide +kernel
theorem dX7_readFrom_12 : decode cX7_readFrom 12 = .ok (.aload_n 1, 1) := by decide +kernel
theorem dX7_readFrom_13 : decode cX7_readFrom 13 = .ok (.aload_n 2, 1) := by decide +kernel
theorem dX7_readFrom_14 : decode cX7_readFrom 14 = .ok (.iconst 1, 1) := by decide +kernel
theorem dX7_readFrom_15 : decode cX7_readFrom 15 = .ok (.invokevirtual 46, 3) := by decide +kernel
theorem dX7_readFrom_18 : decode cX7_readFrom 18 = .ok (.ifCond .eq 16, 3) := by decide +kernel
theorem dX7_readFrom_34 : decode cX7_readFrom 34 = .ok (.iconst 0, 1) := by decide +kernel
theorem dX7_readFrom_35 : decode cX7_readFrom 35 = .ok (.ireturn, 1) := by decide +kernel
theorem dX7_readOne_0 : decode cX7_readOne 0 = .ok (.aload_n 1, 1) := by decide +kernel
theorem dX7_readOne_1 : decode cX7_readOne 1 = .ok (.getfield 57, 3) := by decide +kernel
theorem dX7_readOne_4 : decode cX7_readOne 4 = .ok (.istore 4, 2) := by decide +kernel
theorem dX7_readOne_6 : decode cX7_readOne 6 = .ok (.iload 4, 2) := by decide +kernel
theorem dX7_readOne_8 : decode cX7_readOne 8 = .ok (.invokestatic 70, 3) := by decide +kernel
theorem dX7_readOne_11 : decode cX7_readOne 11 = .ok (.ifCond .ne 9, 3) := by decide +kernel
theorem dX7_readOne_14 : decode cX7_readOne 14 = .ok (.aload_n 1, 1) := by decide +kernel
theorem dX7_readOne_15 : decode cX7_readOne 15 = .ok (.iconst 1, 1) := by decide +kernel
theorem dX7_readOne_16 : decode cX7_readOne 16 = .ok (.invokevirtual 73, 3) := by decide +kernel
theorem dX7_readOne_19 : decode cX7_readOne 19 = .ok (.ireturn, 1) := by decide +kernel
theorem dX9_readFrom_0 : decode cX9_readFrom 0 = .ok (.aload_n 0, 1) := by decide +kernel
theorem dX9_readFrom_1 : decode cX9_readFrom 1 = .ok (.getfield 12, 3) := by decide +kernel
theorem dX9_readFrom_4 : decode cX9_readFrom 4 = .ok (.invokevirtual 34, 3) := by decide +kernel
theorem dX9_readFrom_7 : decode cX9_readFrom 7 = .ok (.aload_n 0, 1) := by decide +kernel
theorem dX9_readFrom_8 : decode cX9_readFrom 8 = .ok (.getfield 23, 3) := by decide +kernel
theorem dX9_readFrom_11 : decode cX9_readFrom 11 = .ok (.invokevirtual 37, 3) := by decide +kernel
theorem dX9_readFrom_14 : decode cX9_readFrom 14 = .ok (.aload_n 0, 1) := by decide +kernel
theorem dX9_readFrom_15 : decode cX9_readFrom 15 = .ok (.iconst 0, 1) := by decide +kernel
theorem dX9_readFrom_16 : decode cX9_readFrom 16 = .ok (.putfield 27, 3) := by decide +kernel
theorem dX9_readFrom_19 : decode cX9_readFrom 19 = .ok (.aload_n 0, 1) := by decide +kernel
theorem dX9_readFrom_20 : decode cX9_readFrom 20 = .ok (.iconst 0, 1) := by decide +kernel
theorem dX9_readFrom_21 : decode cX9_readFrom 21 = .ok (.putfield 31, 3) := by decide +kernel
theorem dX9_readFrom_24 : decode cX9_readFrom 24 = .ok (.aload_n 1, 1) := by decide +kernel
theorem dX9_readFrom_25 : decode cX9_readFrom 25 = .ok (.sipush 900, 3) := by decide +kernel
theorem dX9_readFrom_28 : decode cX9_readFrom 28 = .ok (.invokevirtual 38, 3) := by decide +kernel
theorem dX9_readFrom_31 : decode cX9_readFrom 31 = .ok (.iconst 0, 1) := by decide +kernel
theorem dX9_readFrom_32 : decode cX9_readFrom 32 = .ok (.istore_n 2, 1) := by decide +kernel
theorem dX9_readFrom_33 : decode cX9_readFrom 33 = .ok (.iload_n 2, 1) := by decide +kernel
theorem dX9_readFrom_34 : decode cX9_readFrom 34 = .ok (.sipush 900, 3) := by decide +kernel
theorem dX9_readFrom_37 : decode cX9_readFrom 37 = .ok (.if_icmp .ge 26, 3) := by decide +kernel
theorem dX9_readFrom_40 : decode cX9_readFrom 40 = .ok (.aload_n 1, 1) := by decide +kernel
theorem dX9_readFrom_41 : decode cX9_readFrom 41 = .ok (.getfield 44, 3) := by decide +kernel
theorem dX9_readFrom_44 : decode cX9_readFrom 44 = .ok (.bipush 102, 2) := by decide +kernel
theorem dX9_readFrom_46 : decode cX9_readFrom 46 = .ok (.if_icmp .eq 17, 3) := by decide +kernel
theorem dX9_readFrom_63 : decode cX9_readFrom 63 = .ok (.iload_n 2, 1) := by decide +kernel
theorem dX9_readFrom_64 : decode cX9_readFrom 64 = .ok (.ireturn, 1) := by decide +kernel
set_option maxRecDepth 100000 in
set_option maxHeartbeats 4000000 in
theorem c_Course_living0 {l : Launch} {D : va_G} {cy : Nat → ClassId} {L : List Nat} {κ ln : Nat → Nat} {R : Nat → Nat → Option Nat} {I : Nat → Nat → Int32} {J : Nat → Nat → Int64} {ow : Nat → Nat × Nat} (W9 : ∀ a ∈ L, Shp L κ ln R ow a) {a : Nat} (hLa : a ∈ L) (hka : κ a = 1) (Z1 : Zk L κ 1 I) (Z8 : Zk L κ 8 I) : CtI l yX1_living cX1_living 1 (some .int) { frames := 1, cells := 0, slots := 0, locals := 100 } D cy L κ ln R I J [.ref a] (fun r I2 J2 => I = I2 ∧ J = J2 ∧ r = 0) := by
  refine CtI.of (by decide +kernel) (Nat.le_of_ble_eq_true rfl) ?_
  intro p e s m below meth c B K
  have C := B.1
  refine g_lo (is := [0]) (lo2 := [(0, .ref a)]) rfl ?_
  refine g_aload_n C 0 dX1_living_0 rfl rfl ?_
  obtain ⟨b_213, hb_213, hb_213L, hb_213k⟩ := shp_o (W9 a hLa) hka 0 8 rfl (by decide)
  refine g_getR C K hLa hka f_1_52 hb_213 dX1_living_1 ?_
  refine g_callVI C K (c_Table_everybody0 hb_213L hb_213k (Z8 b_213 hb_213L hb_213k 5)) hb_213L hb_213k (by decide) rfl v_1_62 rfl ⟨rfl, rfl⟩ ⟨Nat.le_of_ble_eq_true rfl, Nat.le_of_ble_eq_true rfl⟩ (Nat.le_of_ble_eq_true rfl) ⟨Nat.le_of_ble_eq_true rfl, Nat.le_of_ble_eq_true rfl⟩ dX1_living_4 rfl (st := []) (fun r_217 I_214 J_215 h_216 => ?_)
  obtain ⟨rfl, rfl, er_217⟩ := h_216
  have h0r_217 := er_217
  subst er_217
  refine g_aload_n C 0 dX1_living_7 rfl rfl ?_
  refine g_getI C K hLa hka f_1_30 (v := 0) (Z1 a hLa hka 7) dX1_living_8 ?_
  refine g_iconst C (v := (-1)) dX1_living_11 (by decide) ?_
  refine g_ixor C (v := (-1)) dX1_living_12 (by decide) ?_
  refine g_iand C (v := 0) dX1_living_13 (by decide) ?_
  exact g_zret (ty := .int) (r := 0) B K rfl rfl (⟨rfl, rfl, rfl⟩) dX1_living_14
set_option maxRecDepth 100000 in
set_option maxHeartbeats 4000000 in
theorem c_Course_allEaten0 {l : Launch} {D : va_G} {cy : Nat → ClassId} {L : List Nat} {κ ln : Nat → Nat} {R : Nat → Nat → Option Nat} {I : Nat → Nat → Int32} {J : Nat → Nat → Int64} {ow : Nat → Nat × Nat} (W9 : ∀ a ∈ L, Shp L κ ln R ow a) {a : Nat} (hLa : a ∈ L) (hka : κ a = 1) (Z8 : Zk L κ 8 I) : CtI l yX1_allEaten cX1_allEaten 3 (some .int) { frames := 0, cells := 0, slots := 0, locals := 0 } D cy L κ ln R I J [.ref a] (fun r I2 J2 => I = I2 ∧ J = J2 ∧ r = 0) := by
  refine CtI.of (by decide +kernel) (Nat.le_of_ble_eq_true rfl) ?_
  intro p e s m below meth c B K
  have C := B.1
  refine g_lo (is := [0]) (lo2 := [(0, .ref a)]) rfl ?_
  refine g_iconst C (v := 0) dX1_allEaten_0 (by decide) ?_
  refine g_istore_n C dX1_allEaten_1 rfl (by decide) (lo2 := [(1, .int 0), (0, .ref a)]) rfl ?_
  refine g_iconst C (v := 0) dX1_allEaten_2 (by decide) ?_
  refine g_istore_n C dX1_allEaten_3 rfl (by decide) (lo2 := [(2, .int 0), (1, .int 0), (0, .ref a)]) rfl ?_
  refine g_iload_n C 0 dX1_allEaten_4 rfl rfl ?_
  refine g_aload_n C 2 dX1_allEaten_5 rfl rfl ?_
  obtain ⟨b_218, hb_218, hb_218L, hb_218k⟩ := shp_o (W9 a hLa) hka 0 8 rfl (by decide)
  refine g_getR C K hLa hka f_1_52 hb_218 dX1_allEaten_6 ?_
  refine g_getI C K hb_218L hb_218k f_1_68 (v := 0) (Z8 b_218 hb_218L hb_218k 5) dX1_allEaten_9 ?_
  refine t_icmp_ge C (tgt := 30) (by decide) dX1_allEaten_12 (by decide) ?_
  refine g_iload_n C 1 dX1_allEaten_30 rfl rfl ?_
  exact g_zret (ty := .int) (r := 0) B K rfl rfl (⟨rfl, rfl, rfl⟩) dX1_allEaten_31
set_option maxRecDepth 100000 in
set_option maxHeartbeats 4000000 in
theorem c_Course_allHunger0 {l : Launch} {D : va_G} {cy : Nat → ClassId} {L : List Nat} {κ ln : Nat → Nat} {R : Nat → Nat → Option Nat} {I : Nat → Nat → Int32} {J : Nat → Nat → Int64} {ow : Nat → Nat × Nat} (W9 : ∀ a ∈ L, Shp L κ ln R ow a) {a : Nat} (hLa : a ∈ L) (hka : κ a = 1) (Z8 : Zk L κ 8 I) : CtI l yX1_allHunger cX1_allHunger 3 (some .int) { frames := 0, cells := 0, slots := 0, locals := 0 } D cy L κ ln R I J [.ref a] (fun r I2 J2 => I = I2 ∧ J = J2 ∧ r = 0) := by
  refine CtI.of (by decide +kernel) (Nat.le_of_ble_eq_true rfl) ?_
  intro p e s m below meth c B K
  have C := B.1
  refine g_lo (is := [0]) (lo2 := [(0, .ref a)]) rfl ?_
  refine g_iconst C (v := 0) dX1_allHunger_0 (by decide) ?_
  refine g_istore_n C dX1_allHunger_1 rfl (by decide) (lo2 := [(1, .int 0), (0, .ref a)]) rfl ?_
  refine g_iconst C (v := 0) dX1_allHunger_2 (by decide) ?_
  refine g_istore_n C dX1_allHunger_3 rfl (by decide) (lo2 := [(2, .int 0), (1, .int 0), (0, .ref a)]) rfl ?_
  refine g_iload_n C 0 dX1_allHunger_4 rfl rfl ?_
  refine g_aload_n C 2 dX1_allHunger_5 rfl rfl ?_
  obtain ⟨b_219, hb_219, hb_219L, hb_219k⟩ := shp_o (W9 a hLa) hka 0 8 rfl (by decide)
  refine g_getR C K hLa hka f_1_52 hb_219 dX1_allHunger_6 ?_
  refine g_getI C K hb_219L hb_219k f_1_68 (v := 0) (Z8 b_219 hb_219L hb_219k 5) dX1_allHunger_9 ?_
  refine t_icmp_ge C (tgt := 30) (by decide) dX1_allHunger_12 (by decide) ?_
  refine g_iload_n C 1 dX1_allHunger_30 rfl rfl ?_
  exact g_zret (ty := .int) (r := 0) B K rfl rfl (⟨rfl, rfl, rfl⟩) dX1_allHunger_31
set_option maxRecDepth 100000 in
set_option maxHeartbeats 4000000 in
theorem c_Course_endMeal0 {l : Launch} {D : va_G} {cy : Nat → ClassId} {L : List Nat} {κ ln : Nat → Nat} {R : Nat → Nat → Option Nat} {I : Nat → Nat → Int32} {J : Nat → Nat → Int64} {ow : Nat → Nat × Nat} (W9 : ∀ a ∈ L, Shp L κ ln R ow a) {a : Nat} (hLa : a ∈ L) (hka : κ a = 1) (Z8 : Zk L κ 8 I) (n : Nat) (h9 : I a 9 = nI n) : CtV l yX1_endMeal cX1_endMeal 4 none { frames := 0, cells := 0, slots := 0, locals := 0 } D cy L κ ln R I J [.ref a] (fun I2 J2 => J = J2 ∧ Fk κ [1] I I2 ∧ I2 a 9 = nI (n + 1)) := by
  refine CtV.of (by decide +kernel) (Nat.le_of_ble_eq_true rfl) ?_
  intro p e s m below meth c B K
  have C := B.1
  refine g_lo (is := [0]) (lo2 := [(0, .ref a)]) rfl ?_
  refine g_iconst C (v := 0) dX1_endMeal_0 (by decide) ?_
  refine g_istore_n C dX1_endMeal_1 rfl (by decide) (lo2 := [(1, .int 0), (0, .ref a)]) rfl ?_
  refine g_iload_n C 0 dX1_endMeal_2 rfl rfl ?_
  refine g_aload_n C 1 dX1_endMeal_3 rfl rfl ?_
  obtain ⟨b_220, hb_220, hb_220L, hb_220k⟩ := shp_o (W9 a hLa) hka 0 8 rfl (by decide)
  refine g_getR C K hLa hka f_1_52 hb_220 dX1_endMeal_4 ?_
  refine g_getI C K hb_220L hb_220k f_1_68 (v := 0) (Z8 b_220 hb_220L hb_220k 5) dX1_endMeal_7 ?_
  refine t_icmp_ge C (tgt := 104) (by decide) dX1_endMeal_10 (by decide) ?_
  refine g_aload_n C 1 dX1_endMeal_104 rfl rfl ?_
  refine g_dup C dX1_endMeal_105 rfl ?_
  refine g_getI C K hLa hka f_1_37 (v := nI n) (h9) dX1_endMeal_106 ?_
  refine g_iconst C (v := 1) dX1_endMeal_109 (by decide) ?_
  refine g_iadd C (v := nI (n + 1)) dX1_endMeal_110 (nI_add (n) 1) ?_
  refine h_putI C K hLa hka f_1_37 p_1_9 dX1_endMeal_111 (fun I_221 hI_221 => ?_)
  exact g_vret B K rfl (⟨rfl, (Fk.rf).u2 hI_221 hka (by decide), by rw [hI_221]; exact u2_s⟩) dX1_endMeal_114
set_option maxRecDepth 100000 in
set_option maxHeartbeats 4000000 in
theorem c_Course_letMealsGo0 {l : Launch} {D : va_G} {cy : Nat → ClassId} {L : List Nat} {κ ln : Nat → Nat} {R : Nat → Nat → Option Nat} {I : Nat → Nat → Int32} {J : Nat → Nat → Int64} {ow : Nat → Nat × Nat} (W9 : ∀ a ∈ L, Shp L κ ln R ow a) {a : Nat} (hLa : a ∈ L) (hka : κ a = 1) (Z8 : Zk L κ 8 I) (N : Nat) (h1 : N ≤ 60) (h9 : I a 9 = nI 0) : CtI l yX1_letMealsGo cX1_letMealsGo 3 (some .int) { frames := 1, cells := 0, slots := 0, locals := 100 } D cy L κ ln R I J [.ref a, .int (nI N)] (fun r I2 J2 => J = J2 ∧ Fk κ [1] I I2 ∧ r = nI N) := by
  refine CtI.of (by decide +kernel) (Nat.le_of_ble_eq_true rfl) ?_
  intro p e s m below meth c B K
  have C := B.1
  refine g_lo (is := [0, 1]) (lo2 := [(0, .ref a), (1, .int (nI N))]) rfl ?_
  refine g_iconst C (v := 0) dX1_letMealsGo_0 (by decide) ?_
  refine g_istore_n C dX1_letMealsGo_1 rfl (by decide) (lo2 := [(2, .int 0), (0, .ref a), (1, .int (nI N))]) rfl ?_
  have lp_229 : ∀ (n_225 i_224 : Nat) (I_222 : Nat → Nat → Int32) (J_223 : Nat → Nat → Int64), i_224 + n_225 = N → J = J_223 → Fk κ [1] I I_222 → I_222 a 9 = nI i_224 → WG p l e { frames := 1, cells := 0, slots := 0, locals := 100 } s m ([.ref a, .int (nI N)] : List Value).toArray below meth c 3 0 0 (MQ below (Qi_ D cy L κ ln R (fun r I2 J2 => J = J2 ∧ Fk κ [1] I I2 ∧ r = nI N)) ([.ref a, .int (nI N)] : List Value).toArray s 0 0 (Al_ L)) D cy (Al_ L) s.heap L κ ln R I_222 J_223 2 [(2, .int (nI i_224)), (0, .ref a), (1, .int (nI N))] [] := by
    intro n_225
    induction n_225 with
    | zero =>
      intro i_224 I_222 J_223 hi_228 e9 F_226 x_230
      subst e9
      refine g_iload_n C 0 dX1_letMealsGo_2 rfl rfl ?_
      refine g_iload_n C 2 dX1_letMealsGo_3 rfl rfl ?_
      refine t_icmp_ge C (tgt := 27) (lt_ge (n := i_224) (k := N) (by omega) (by omega)) dX1_letMealsGo_4 (by decide) ?_
      refine g_iload_n C 0 dX1_letMealsGo_27 rfl rfl ?_
      exact g_zret (ty := .int) (r := nI i_224) B K rfl rfl (⟨rfl, (Fk.rf).tr F_226 (by decide), by rw [show i_224 = N by omega]⟩) dX1_letMealsGo_28
    | succ n_225 ihn_225 =>
      intro i_224 I_222 J_223 hi_228 e9 F_226 x_230
      subst e9
      refine g_iload_n C 0 dX1_letMealsGo_2 rfl rfl ?_
      refine g_iload_n C 2 dX1_letMealsGo_3 rfl rfl ?_
      refine n_icmp_ge C (tgt := 27) (ln_ge (n := i_224) (k := N) (by omega) (by omega)) dX1_letMealsGo_4 (by decide) ?_
      refine g_aload_n C 1 dX1_letMealsGo_7 rfl rfl ?_
      refine g_getI C K hLa hka f_1_37 (v := nI i_224) (x_230) dX1_letMealsGo_8 ?_
      refine g_sipush C (v := 200) dX1_letMealsGo_11 (by decide) ?_
      refine n_icmp_ge C (tgt := 27) (ln_ge (n := i_224) (k := 200) (by omega) (by omega)) dX1_letMealsGo_14 (by decide) ?_
      refine g_aload_n C 1 dX1_letMealsGo_17 rfl rfl ?_
      refine g_callVV C K (c_Course_endMeal0 W9 hLa hka ((Z8).fk F_226 (by decide)) (i_224) (x_230)) hLa hka (by decide) rfl v_1_126 rfl ⟨rfl, rfl⟩ ⟨Nat.le_of_ble_eq_true rfl, Nat.le_of_ble_eq_true rfl⟩ (Nat.le_of_ble_eq_true rfl) ⟨Nat.le_of_ble_eq_true rfl, Nat.le_of_ble_eq_true rfl⟩ dX1_letMealsGo_18 rfl (st := []) (fun I_231 J_232 h_233 => ?_)
      obtain ⟨rfl, f_235, v_237⟩ := h_233
      refine g_iinc C dX1_letMealsGo_21 (k := 0) (v := nI (i_224 + 1)) rfl (nI_1 (i_224)) (by decide) (lo2 := [(2, .int (nI (i_224 + 1))), (0, .ref a), (1, .int (nI N))]) rfl ?_
      refine g_goto C (tgt := 2) dX1_letMealsGo_24 (by decide) ?_
      refine g_lo (is := [0, 1, 2]) (lo2 := [(2, .int (nI (i_224 + 1))), (0, .ref a), (1, .int (nI N))]) rfl ?_
      exact ihn_225 (i_224 + 1) I_231 J (by omega) rfl ((F_226).tr f_235 (by decide)) (v_237)
  exact lp_229 (N - 0) 0 I J (by omega) rfl Fk.rf (h9)
set_option maxRecDepth 100000 in
set_option maxHeartbeats 4000000 in
theorem c_Past_note0 {l : Launch} {D : va_G} {cy : Nat → ClassId} {L : List Nat} {κ ln : Nat → Nat} {R : Nat → Nat → Option Nat} {I : Nat → Nat → Int32} {J : Nat → Nat → Int64} {ow : Nat → Nat × Nat} (W9 : ∀ a ∈ L, Shp L κ ln R ow a) {a : Nat} (hLa : a ∈ L) (hka : κ a = 5) {b : Nat} (hLb : b ∈ L) (hkb : κ b = 1) (Z1 : Zk L κ 1 I) (h2 : I a 2 = 0) : CtV l yX5_note cX5_note 2 none { frames := 2, cells := 0, slots := 0, locals := 130 } D cy L κ ln R I J [.ref a, .ref b] (fun I2 J2 => J = J2 ∧ Fk κ [1, 14] I I2 ∧ Zk L κ 1 I2) := by
  refine CtV.of (by decide +kernel) (Nat.le_of_ble_eq_true rfl) ?_
  intro p e s m below meth c B K
  have C := B.1
  refine g_lo (is := [0, 1]) (lo2 := [(0, .ref a), (1, .ref b)]) rfl ?_
  refine g_aload_n C 0 dX5_note_0 rfl rfl ?_
  obtain ⟨b_238, hb_238, hb_238L, hb_238k, hb_238n, hb_238o⟩ := shp_a (W9 a hLa) hka 0 17 9 rfl (by decide)
  refine g_getR C K hLa hka f_5_13 hb_238 dX5_note_1 ?_
  refine g_aload_n C 0 dX5_note_4 rfl rfl ?_
  refine g_getI C K hLa hka f_5_21 (v := 0) (h2) dX5_note_5 ?_
  obtain ⟨b_239, hb_239, hb_239L, hb_239k⟩ := (W9 b_238 hb_238L).2.1 hb_238k (0) (by rw [hb_238n]; decide)
  refine h_aaldC C K hb_238L hb_238k (0) (by decide) (by decide) (by rw [hb_238n]; decide) hb_239 dX5_note_8 ?_
  refine g_aload_n C 1 dX5_note_9 rfl rfl ?_
  refine g_callVV C K (c_Course_become W9 hb_239L hb_239k hLb hkb Z1) hb_239L hb_239k (by decide) rfl v_5_27 rfl ⟨rfl, rfl⟩ ⟨Nat.le_of_ble_eq_true rfl, Nat.le_of_ble_eq_true rfl⟩ (Nat.le_of_ble_eq_true rfl) ⟨Nat.le_of_ble_eq_true rfl, Nat.le_of_ble_eq_true rfl⟩ dX5_note_10 rfl (st := []) (fun I_240 J_241 h_242 => ?_)
  obtain ⟨rfl, f_244, z_246⟩ := h_242
  exact g_vret B K rfl (⟨rfl, (Fk.rf).tr f_244 (by decide), z_246⟩) dX5_note_13
set_option maxRecDepth 100000 in
set_option maxHeartbeats 4000000 in
theorem c_Past_keepNoted0 {l : Launch} {D : va_G} {cy : Nat → ClassId} {L : List Nat} {κ ln : Nat → Nat} {R : Nat → Nat → Option Nat} {I : Nat → Nat → Int32} {J : Nat → Nat → Int64} {a : Nat} (hLa : a ∈ L) (hka : κ a = 5) (h1 : I a 1 = 0) (h2 : I a 2 = 0) : CtV l yX5_keepNoted cX5_keepNoted 1 none { frames := 1, cells := 0, slots := 0, locals := 100 } D cy L κ ln R I J [.ref a] (fun I2 J2 => J = J2 ∧ Fk κ [5] I I2) := by
  refine CtV.of (by decide +kernel) (Nat.le_of_ble_eq_true rfl) ?_
  intro p e s m below meth c B K
  have C := B.1
  refine g_lo (is := [0]) (lo2 := [(0, .ref a)]) rfl ?_
  refine g_aload_n C 0 dX5_keepNoted_0 rfl rfl ?_
  refine g_aload_n C 0 dX5_keepNoted_1 rfl rfl ?_
  refine g_getI C K hLa hka f_5_21 (v := 0) (h2) dX5_keepNoted_2 ?_
  refine g_iconst C (v := 1) dX5_keepNoted_5 (by decide) ?_
  refine g_iadd C (v := 1) dX5_keepNoted_6 (by decide) ?_
  refine g_bipush C (v := 9) dX5_keepNoted_7 (by decide) ?_
  refine n_icmp_ge C (tgt := 21) (by decide) dX5_keepNoted_9 (by decide) ?_
  refine g_aload_n C 0 dX5_keepNoted_12 rfl rfl ?_
  refine g_getI C K hLa hka f_5_21 (v := 0) (h2) dX5_keepNoted_13 ?_
  refine g_iconst C (v := 1) dX5_keepNoted_16 (by decide) ?_
  refine g_iadd C (v := 1) dX5_keepNoted_17 (by decide) ?_
  refine g_goto C (tgt := 22) dX5_keepNoted_18 (by decide) ?_
  refine h_putI C K hLa hka f_5_21 p_5_2 dX5_keepNoted_22 (fun I_247 hI_247 => ?_)
  refine g_aload_n C 0 dX5_keepNoted_25 rfl rfl ?_
  refine g_aload_n C 0 dX5_keepNoted_26 rfl rfl ?_
  refine g_getI C K hLa hka f_5_17 (v := 0) (by rw [hI_247, u2_j (by decide)]; exact h1) dX5_keepNoted_27 ?_
  refine g_iconst C (v := 1) dX5_keepNoted_30 (by decide) ?_
  refine g_iadd C (v := 1) dX5_keepNoted_31 (by decide) ?_
  refine g_bipush C (v := 8) dX5_keepNoted_32 (by decide) ?_
  refine g_mmin C (v := 1) mw_5_31 w_min (Nat.le_of_ble_eq_true rfl) (Nat.le_of_ble_eq_true rfl) ⟨Nat.le_of_ble_eq_true rfl, Nat.le_of_ble_eq_true rfl⟩ (by decide) dX5_keepNoted_34 ?_
  refine h_putI C K hLa hka f_5_17 p_5_1 dX5_keepNoted_37 (fun I_248 hI_248 => ?_)
  exact g_vret B K rfl (⟨rfl, ((Fk.rf).u2 hI_247 hka (by decide)).u2 hI_248 hka (by decide)⟩) dX5_keepNoted_40
set_option maxRecDepth 100000 in
set_option maxHeartbeats 4000000 in
theorem c_Past_takeBack0 {l : Launch} {D : va_G} {cy : Nat → ClassId} {L : List Nat} {κ ln : Nat → Nat} {R : Nat → Nat → Option Nat} {I : Nat → Nat → Int32} {J : Nat → Nat → Int64} {a : Nat} (hLa : a ∈ L) (hka : κ a = 5) {b : Nat} (hLb : b ∈ L) (hkb : κ b = 1) (h1 : I a 1 = 0) : CtI l yX5_takeBack cX5_takeBack 2 (some .int) { frames := 0, cells := 0, slots := 0, locals := 0 } D cy L κ ln R I J [.ref a, .ref b] (fun r I2 J2 => I = I2 ∧ J = J2 ∧ r = -1) := by
  refine CtI.of (by decide +kernel) (Nat.le_of_ble_eq_true rfl) ?_
  intro p e s m below meth c B K
  have C := B.1
  refine g_lo (is := [0, 1]) (lo2 := [(0, .ref a), (1, .ref b)]) rfl ?_
  refine g_aload_n C 0 dX5_takeBack_0 rfl rfl ?_
  refine g_getI C K hLa hka f_5_17 (v := 0) (h1) dX5_takeBack_1 ?_
  refine n_if_ne C (tgt := 9) (by decide) dX5_takeBack_4 (by decide) ?_
  refine g_iconst C (v := (-1)) dX5_takeBack_7 (by decide) ?_
  exact g_zret (ty := .int) (r := (-1)) B K rfl rfl (⟨rfl, rfl, rfl⟩) dX5_takeBack_8
set_option maxRecDepth 100000 in
set_option maxHeartbeats 4000000 in
theorem c_Past_forget {l : Launch} {D : va_G} {cy : Nat → ClassId} {L : List Nat} {κ ln : Nat → Nat} {R : Nat → Nat → Option Nat} {I : Nat → Nat → Int32} {J : Nat → Nat → Int64} {a : Nat} (hLa : a ∈ L) (hka : κ a = 5) : CtV l yX5_forget cX5_forget 1 none { frames := 0, cells := 0, slots := 0, locals := 0 } D cy L κ ln R I J [.ref a] (fun I2 J2 => J = J2 ∧ Fk κ [5] I I2) := by
  refine CtV.of (by decide +kernel) (Nat.le_of_ble_eq_true rfl) ?_
  intro p e s m below meth c B K
  have C := B.1
  refine g_lo (is := [0]) (lo2 := [(0, .ref a)]) rfl ?_
  refine g_aload_n C 0 dX5_forget_0 rfl rfl ?_
  refine g_iconst C (v := 0) dX5_forget_1 (by decide) ?_
  refine h_putI C K hLa hka f_5_17 p_5_1 dX5_forget_2 (fun I_249 hI_249 => ?_)
  exact g_vret B K rfl (⟨rfl, (Fk.rf).u2 hI_249 hka (by decide)⟩) dX5_forget_5
set_option maxRecDepth 100000 in
set_option maxHeartbeats 4000000 in
theorem c_Sen_forget {l : Launch} {D : va_G} {cy : Nat → ClassId} {L : List Nat} {κ ln : Nat → Nat} {R : Nat → Nat → Option Nat} {I : Nat → Nat → Int32} {J : Nat → Nat → Int64} {a : Nat} (hLa : a ∈ L) (hka : κ a = 7) : CtV l yX7_forget cX7_forget 1 none { frames := 0, cells := 0, slots := 0, locals := 0 } D cy L κ ln R I J [.ref a] (fun I2 J2 => J = J2 ∧ Fk κ [7] I I2) := by
  refine CtV.of (by decide +kernel) (Nat.le_of_ble_eq_true rfl) ?_
  intro p e s m below meth c B K
  have C := B.1
  refine g_lo (is := [0]) (lo2 := [(0, .ref a)]) rfl ?_
  refine g_aload_n C 0 dX7_forget_0 rfl rfl ?_
  refine g_iconst C (v := 0) dX7_forget_1 (by decide) ?_
  refine h_putI C K hLa hka f_7_24 p_7_4 dX7_forget_2 (fun I_250 hI_250 => ?_)
  refine g_aload_n C 0 dX7_forget_5 rfl rfl ?_
  refine g_iconst C (v := 0) dX7_forget_6 (by decide) ?_
  refine h_putI C K hLa hka f_7_28 p_7_5 dX7_forget_7 (fun I_251 hI_251 => ?_)
  exact g_vret B K rfl (⟨rfl, ((Fk.rf).u2 hI_250 hka (by decide)).u2 hI_251 hka (by decide)⟩) dX7_forget_10
set_option maxRecDepth 100000 in
set_option maxHeartbeats 4000000 in
theorem c_Sen_become {l : Launch} {D : va_G} {cy : Nat → ClassId} {L : List Nat} {κ ln : Nat → Nat} {R : Nat → Nat → Option Nat} {I : Nat → Nat → Int32} {J : Nat → Nat → Int64} {ow : Nat → Nat × Nat} (W9 : ∀ a ∈ L, Shp L κ ln R ow a) {a : Nat} (hLa : a ∈ L) (hka : κ a = 7) {b : Nat} (hLb : b ∈ L) (hkb : κ b = 7) : CtV l yX7_become cX7_become 2 none { frames := 1, cells := 0, slots := 0, locals := 100 } D cy L κ ln R I J [.ref a, .ref b] (fun I2 J2 => J = J2 ∧ Fk κ [7, 14] I I2) := by
  refine CtV.of (by decide +kernel) (Nat.le_of_ble_eq_true rfl) ?_
  intro p e s m below meth c B K
  have C := B.1
  refine g_lo (is := [0, 1]) (lo2 := [(0, .ref a), (1, .ref b)]) rfl ?_
  refine g_aload_n C 1 dX7_become_0 rfl rfl ?_
  obtain ⟨b_252, hb_252, hb_252L, hb_252k, hb_252n, hb_252o⟩ := shp_a (W9 b hLb) hkb 0 14 40 rfl (by decide)
  refine g_getR C K hLb hkb f_7_11 hb_252 dX7_become_1 ?_
  refine g_iconst C (v := 0) dX7_become_4 (by decide) ?_
  refine g_aload_n C 0 dX7_become_5 rfl rfl ?_
  obtain ⟨b_253, hb_253, hb_253L, hb_253k, hb_253n, hb_253o⟩ := shp_a (W9 a hLa) hka 0 14 40 rfl (by decide)
  refine g_getR C K hLa hka f_7_11 hb_253 dX7_become_6 ?_
  refine g_iconst C (v := 0) dX7_become_9 (by decide) ?_
  refine g_bipush C (v := 40) dX7_become_10 (by decide) ?_
  refine h_copyI C K hb_253L hb_253k hb_252L hb_252k ac_7_31 40 (by decide) (by decide) (by rw [hb_252n]; decide) (by rw [hb_253n]; decide) w_cp (Nat.le_of_ble_eq_true rfl) (Nat.le_of_ble_eq_true rfl) dX7_become_12 (fun I_254 hI_254 => ?_)
  refine g_aload_n C 1 dX7_become_15 rfl rfl ?_
  obtain ⟨b_255, hb_255, hb_255L, hb_255k, hb_255n, hb_255o⟩ := shp_a (W9 b hLb) hkb 1 14 40 rfl (by decide)
  refine g_getR C K hLb hkb f_7_15 hb_255 dX7_become_16 ?_
  refine g_iconst C (v := 0) dX7_become_19 (by decide) ?_
  refine g_aload_n C 0 dX7_become_20 rfl rfl ?_
  obtain ⟨b_256, hb_256, hb_256L, hb_256k, hb_256n, hb_256o⟩ := shp_a (W9 a hLa) hka 1 14 40 rfl (by decide)
  refine g_getR C K hLa hka f_7_15 hb_256 dX7_become_21 ?_
  refine g_iconst C (v := 0) dX7_become_24 (by decide) ?_
  refine g_bipush C (v := 40) dX7_become_25 (by decide) ?_
  refine h_copyI C K hb_256L hb_256k hb_255L hb_255k ac_7_31 40 (by decide) (by decide) (by rw [hb_255n]; decide) (by rw [hb_256n]; decide) w_cp (Nat.le_of_ble_eq_true rfl) (Nat.le_of_ble_eq_true rfl) dX7_become_27 (fun I_257 hI_257 => ?_)
  refine g_aload_n C 1 dX7_become_30 rfl rfl ?_
  obtain ⟨b_258, hb_258, hb_258L, hb_258k, hb_258n, hb_258o⟩ := shp_a (W9 b hLb) hkb 2 14 40 rfl (by decide)
  refine g_getR C K hLb hkb f_7_18 hb_258 dX7_become_31 ?_
  refine g_iconst C (v := 0) dX7_become_34 (by decide) ?_
  refine g_aload_n C 0 dX7_become_35 rfl rfl ?_
  obtain ⟨b_259, hb_259, hb_259L, hb_259k, hb_259n, hb_259o⟩ := shp_a (W9 a hLa) hka 2 14 40 rfl (by decide)
  refine g_getR C K hLa hka f_7_18 hb_259 dX7_become_36 ?_
  refine g_iconst C (v := 0) dX7_become_39 (by decide) ?_
  refine g_bipush C (v := 40) dX7_become_40 (by decide) ?_
  refine h_copyI C K hb_259L hb_259k hb_258L hb_258k ac_7_31 40 (by decide) (by decide) (by rw [hb_258n]; decide) (by rw [hb_259n]; decide) w_cp (Nat.le_of_ble_eq_true rfl) (Nat.le_of_ble_eq_true rfl) dX7_become_42 (fun I_260 hI_260 => ?_)
  refine g_aload_n C 0 dX7_become_45 rfl rfl ?_
  refine g_aload_n C 1 dX7_become_46 rfl rfl ?_
  obtain ⟨x_261, hx_261⟩ : ∃ z, I_260 b 4 = z := ⟨_, rfl⟩
  refine g_getI C K hLb hkb f_7_24 hx_261 dX7_become_47 ?_
  refine h_putI C K hLa hka f_7_24 p_7_4 dX7_become_50 (fun I_262 hI_262 => ?_)
  refine g_aload_n C 0 dX7_become_53 rfl rfl ?_
  refine g_aload_n C 1 dX7_become_54 rfl rfl ?_
  obtain ⟨x_263, hx_263⟩ : ∃ z, I_262 b 5 = z := ⟨_, rfl⟩
  refine g_getI C K hLb hkb f_7_28 hx_263 dX7_become_55 ?_
  refine h_putI C K hLa hka f_7_28 p_7_5 dX7_become_58 (fun I_264 hI_264 => ?_)
  exact g_vret B K rfl (⟨rfl, (((((Fk.rf).k2 hI_254 hb_253k (by decide)).k2 hI_257 hb_256k (by decide)).k2 hI_260 hb_259k (by decide)).u2 hI_262 hka (by decide)).u2 hI_264 hka (by decide)⟩) dX7_become_61
set_option maxRecDepth 100000 in
set_option maxHeartbeats 4000000 in
theorem c_Sen_beginsOne0 {l : Launch} {D : va_G} {cy : Nat → ClassId} {L : List Nat} {κ ln : Nat → Nat} {R : Nat → Nat → Option Nat} {I : Nat → Nat → Int32} {J : Nat → Nat → Int64}  : CtI l yX7_beginsOne cX7_beginsOne 1 (some .boolean) { frames := 0, cells := 0, slots := 0, locals := 0 } D cy L κ ln R I J [.int 102] (fun r I2 J2 => I = I2 ∧ J = J2 ∧ r = 0) := by
  refine CtI.of (by decide +kernel) (Nat.le_of_ble_eq_true rfl) ?_
  intro p e s m below meth c B K
  have C := B.1
  refine g_lo (is := [0]) (lo2 := [(0, .int 102)]) rfl ?_
  refine g_iload_n C 0 dX7_beginsOne_0 rfl rfl ?_
  refine g_bipush C (v := 40) dX7_beginsOne_1 (by decide) ?_
  refine n_icmp_eq C (tgt := 23) (by decide) dX7_beginsOne_3 (by decide) ?_
  refine g_iload_n C 0 dX7_beginsOne_6 rfl rfl ?_
  refine g_iconst C (v := 5) dX7_beginsOne_7 (by decide) ?_
  refine n_icmp_eq C (tgt := 23) (by decide) dX7_beginsOne_8 (by decide) ?_
  refine g_iload_n C 0 dX7_beginsOne_11 rfl rfl ?_
  refine g_bipush C (v := 19) dX7_beginsOne_12 (by decide) ?_
  refine n_icmp_lt C (tgt := 27) (by decide) dX7_beginsOne_14 (by decide) ?_
  refine g_iload_n C 0 dX7_beginsOne_17 rfl rfl ?_
  refine g_bipush C (v := 27) dX7_beginsOne_18 (by decide) ?_
  refine t_icmp_gt C (tgt := 27) (by decide) dX7_beginsOne_20 (by decide) ?_
  refine g_iconst C (v := 0) dX7_beginsOne_27 (by decide) ?_
  exact g_zret (ty := .boolean) (r := 0) B K rfl (by decide) (⟨rfl, rfl, rfl⟩) dX7_beginsOne_28
set_option maxRecDepth 100000 in
set_option maxHeartbeats 4000000 in
theorem c_Sen_readOne0 {l : Launch} {D : va_G} {cy : Nat → ClassId} {L : List Nat} {κ ln : Nat → Nat} {R : Nat → Nat → Option Nat} {I : Nat → Nat → Int32} {J : Nat → Nat → Int64} {a : Nat} (hLa : a ∈ L) (hka : κ a = 7) {t : Nat} (hLt : t ∈ L) (hkt : κ t = 10) {b : Nat} (hLb : b ∈ L) (hkb : κ b = 8) (h8 : I t 8 = 102) (h9 : I t 9 = 0) (h11 : I t 11 = 0) : CtI l yX7_readOne cX7_readOne 5 (some .boolean) { frames := 1, cells := 0, slots := 0, locals := 100 } D cy L κ ln R I J [.ref a, .ref t, .ref b, .int 1] (fun r I2 J2 => J = J2 ∧ Fk κ [10] I I2 ∧ I2 t 11 = 1 ∧ I2 t 12 = 0 ∧ r = 0) := by
  refine CtI.of (by decide +kernel) (Nat.le_of_ble_eq_true rfl) ?_
  intro p e s m below meth c B K
  have C := B.1
  refine g_lo (is := [0, 1, 2, 3]) (lo2 := [(0, .ref a), (1, .ref t), (2, .ref b), (3, .int 1)]) rfl ?_
  refine g_aload_n C 1 dX7_readOne_0 rfl rfl ?_
  refine g_getI C K hLt hkt f_7_57 (v := 102) (h8) dX7_readOne_1 ?_
  refine g_istore C dX7_readOne_4 (by decide) (lo2 := [(4, .int 102), (0, .ref a), (1, .ref t), (2, .ref b), (3, .int 1)]) rfl ?_
  refine g_iload C 0 dX7_readOne_6 rfl ?_
  refine g_callSI C K (c_Sen_beginsOne0 ) s_7_70 rfl ⟨rfl, rfl⟩ ⟨Nat.le_of_ble_eq_true rfl, Nat.le_of_ble_eq_true rfl⟩ (Nat.le_of_ble_eq_true rfl) ⟨Nat.le_of_ble_eq_true rfl, Nat.le_of_ble_eq_true rfl⟩ dX7_readOne_8 rfl (st := []) (fun r_268 I_265 J_266 h_267 => ?_)
  obtain ⟨rfl, rfl, er_268⟩ := h_267
  have h0r_268 := er_268
  subst er_268
  refine n_if_ne C (tgt := 20) (by decide) dX7_readOne_11 (by decide) ?_
  refine g_aload_n C 2 dX7_readOne_14 rfl rfl ?_
  refine g_iconst C (v := 1) dX7_readOne_15 (by decide) ?_
  refine g_callVI C K (c_Tape_fail0 hLt hkt (h11) 1 0 (h9)) hLt hkt (by decide) rfl v_7_73 rfl ⟨rfl, rfl⟩ ⟨Nat.le_of_ble_eq_true rfl, Nat.le_of_ble_eq_true rfl⟩ (Nat.le_of_ble_eq_true rfl) ⟨Nat.le_of_ble_eq_true rfl, Nat.le_of_ble_eq_true rfl⟩ dX7_readOne_16 rfl (st := []) (fun r_272 I_269 J_270 h_271 => ?_)
  obtain ⟨rfl, f_273, v_275, v_276, rfl⟩ := h_271
  exact g_zret (ty := .boolean) (r := 0) B K rfl (by decide) (⟨rfl, (Fk.rf).tr f_273 (by decide), v_275, v_276, rfl⟩) dX7_readOne_19
set_option maxRecDepth 100000 in
set_option maxHeartbeats 4000000 in
theorem c_Sen_readAll0 {l : Launch} {D : va_G} {cy : Nat → ClassId} {L : List Nat} {κ ln : Nat → Nat} {R : Nat → Nat → Option Nat} {I : Nat → Nat → Int32} {J : Nat → Nat → Int64} {a : Nat} (hLa : a ∈ L) (hka : κ a = 7) {t : Nat} (hLt : t ∈ L) (hkt : κ t = 10) {b : Nat} (hLb : b ∈ L) (hkb : κ b = 8) (h8 : I t 8 = 102) (h9 : I t 9 = 0) (h11 : I t 11 = 0) : CtI l yX7_readAll cX7_readAll 6 (some .boolean) { frames := 2, cells := 0, slots := 0, locals := 150 } D cy L κ ln R I J [.ref a, .ref t, .ref b, .int 1] (fun r I2 J2 => J = J2 ∧ Fk κ [10] I I2 ∧ I2 t 11 = 1 ∧ I2 t 12 = 0 ∧ r = 0) := by
  refine CtI.of (by decide +kernel) (Nat.le_of_ble_eq_true rfl) ?_
  intro p e s m below meth c B K
  have C := B.1
  refine g_lo (is := [0, 1, 2, 3]) (lo2 := [(0, .ref a), (1, .ref t), (2, .ref b), (3, .int 1)]) rfl ?_
  refine g_aload_n C 0 dX7_readAll_0 rfl rfl ?_
  refine g_aload_n C 1 dX7_readAll_1 rfl rfl ?_
  refine g_aload_n C 2 dX7_readAll_2 rfl rfl ?_
  refine g_iload_n C 3 dX7_readAll_3 rfl rfl ?_
  refine g_callVI C K (c_Sen_readOne0 hLa hka hLt hkt hLb hkb (h8) (h9) (h11)) hLa hka (by decide) rfl v_7_67 rfl ⟨rfl, rfl⟩ ⟨Nat.le_of_ble_eq_true rfl, Nat.le_of_ble_eq_true rfl⟩ (Nat.le_of_ble_eq_true rfl) ⟨Nat.le_of_ble_eq_true rfl, Nat.le_of_ble_eq_true rfl⟩ dX7_readAll_4 rfl (st := []) (fun r_280 I_277 J_278 h_279 => ?_)
  obtain ⟨rfl, f_281, v_283, v_284, rfl⟩ := h_279
  refine g_istore C dX7_readAll_7 (by decide) (lo2 := [(4, .int 0), (0, .ref a), (1, .ref t), (2, .ref b), (3, .int 1)]) rfl ?_
  refine g_iconst C (v := 0) dX7_readAll_9 (by decide) ?_
  refine g_istore C dX7_readAll_10 (by decide) (lo2 := [(5, .int 0), (4, .int 0), (0, .ref a), (1, .ref t), (2, .ref b), (3, .int 1)]) rfl ?_
  refine g_iload C 0 dX7_readAll_12 rfl ?_
  refine g_bipush C (v := 20) dX7_readAll_14 (by decide) ?_
  refine n_icmp_ge C (tgt := 71) (by decide) dX7_readAll_16 (by decide) ?_
  refine g_iload C 1 dX7_readAll_19 rfl ?_
  refine t_if_eq C (tgt := 71) (by decide) dX7_readAll_21 (by decide) ?_
  refine g_iload C 1 dX7_readAll_71 rfl ?_
  exact g_zret (ty := .boolean) (r := 0) B K rfl (by decide) (⟨rfl, (Fk.rf).tr f_281 (by decide), v_283, v_284, rfl⟩) dX7_readAll_73
set_option maxRecDepth 100000 in
set_option maxHeartbeats 4000000 in
theorem c_Sen_readCond0 {l : Launch} {D : va_G} {cy : Nat → ClassId} {L : List Nat} {κ ln : Nat → Nat} {R : Nat → Nat → Option Nat} {I : Nat → Nat → Int32} {J : Nat → Nat → Int64} {a : Nat} (hLa : a ∈ L) (hka : κ a = 7) {t : Nat} (hLt : t ∈ L) (hkt : κ t = 10) {b : Nat} (hLb : b ∈ L) (hkb : κ b = 8) (h8 : I t 8 = 102) (h9 : I t 9 = 0) (h11 : I t 11 = 0) : CtI l yX7_readCond cX7_readCond 6 (some .boolean) { frames := 3, cells := 0, slots := 0, locals := 200 } D cy L κ ln R I J [.ref a, .ref t, .ref b, .int 1] (fun r I2 J2 => J = J2 ∧ Fk κ [10] I I2 ∧ I2 t 11 = 1 ∧ I2 t 12 = 0 ∧ r = 0) := by
  refine CtI.of (by decide +kernel) (Nat.le_of_ble_eq_true rfl) ?_
  intro p e s m below meth c B K
  have C := B.1
  refine g_lo (is := [0, 1, 2, 3]) (lo2 := [(0, .ref a), (1, .ref t), (2, .ref b), (3, .int 1)]) rfl ?_
  refine g_aload_n C 0 dX7_readCond_0 rfl rfl ?_
  refine g_aload_n C 1 dX7_readCond_1 rfl rfl ?_
  refine g_aload_n C 2 dX7_readCond_2 rfl rfl ?_
  refine g_iload_n C 3 dX7_readCond_3 rfl rfl ?_
  refine g_callVI C K (c_Sen_readAll0 hLa hka hLt hkt hLb hkb (h8) (h9) (h11)) hLa hka (by decide) rfl v_7_54 rfl ⟨rfl, rfl⟩ ⟨Nat.le_of_ble_eq_true rfl, Nat.le_of_ble_eq_true rfl⟩ (Nat.le_of_ble_eq_true rfl) ⟨Nat.le_of_ble_eq_true rfl, Nat.le_of_ble_eq_true rfl⟩ dX7_readCond_4 rfl (st := []) (fun r_288 I_285 J_286 h_287 => ?_)
  obtain ⟨rfl, f_289, v_291, v_292, rfl⟩ := h_287
  refine g_istore C dX7_readCond_7 (by decide) (lo2 := [(4, .int 0), (0, .ref a), (1, .ref t), (2, .ref b), (3, .int 1)]) rfl ?_
  refine g_iconst C (v := 0) dX7_readCond_9 (by decide) ?_
  refine g_istore C dX7_readCond_10 (by decide) (lo2 := [(5, .int 0), (4, .int 0), (0, .ref a), (1, .ref t), (2, .ref b), (3, .int 1)]) rfl ?_
  refine g_iload C 0 dX7_readCond_12 rfl ?_
  refine g_bipush C (v := 20) dX7_readCond_14 (by decide) ?_
  refine n_icmp_ge C (tgt := 71) (by decide) dX7_readCond_16 (by decide) ?_
  refine g_iload C 1 dX7_readCond_19 rfl ?_
  refine t_if_eq C (tgt := 71) (by decide) dX7_readCond_21 (by decide) ?_
  refine g_iload C 1 dX7_readCond_71 rfl ?_
  exact g_zret (ty := .boolean) (r := 0) B K rfl (by decide) (⟨rfl, (Fk.rf).tr f_289 (by decide), v_291, v_292, rfl⟩) dX7_readCond_73
set_option maxRecDepth 100000 in
set_option maxHeartbeats 4000000 in
theorem c_Sen_readFrom0 {l : Launch} {D : va_G} {cy : Nat → ClassId} {L : List Nat} {κ ln : Nat → Nat} {R : Nat → Nat → Option Nat} {I : Nat → Nat → Int32} {J : Nat → Nat → Int64} {ow : Nat → Nat × Nat} (W9 : ∀ a ∈ L, Shp L κ ln R ow a) {a : Nat} (hLa : a ∈ L) (hka : κ a = 7) {t : Nat} (hLt : t ∈ L) (hkt : κ t = 10) {b : Nat} (hLb : b ∈ L) (hkb : κ b = 8) (h5 : I t 5 = 0) : CtI l yX7_readFrom cX7_readFrom 3 (some .boolean) { frames := 4, cells := 0, slots := 0, locals := 260 } D cy L κ ln R I J [.ref a, .ref t, .ref b] (fun r I2 J2 => Fj κ [10, 15] J J2 ∧ Fk κ [7, 10, 14] I I2 ∧ I2 t 11 = 1 ∧ I2 t 12 = 0 ∧ r = 0) := by
  refine CtI.of (by decide +kernel) (Nat.le_of_ble_eq_true rfl) ?_
  intro p e s m below meth c B K
  have C := B.1
  refine g_lo (is := [0, 1, 2]) (lo2 := [(0, .ref a), (1, .ref t), (2, .ref b)]) rfl ?_
  refine g_aload_n C 0 dX7_readFrom_0 rfl rfl ?_
  refine g_callVV C K (c_Sen_forget hLa hka) hLa hka (by decide) rfl v_7_37 rfl ⟨rfl, rfl⟩ ⟨Nat.le_of_ble_eq_true rfl, Nat.le_of_ble_eq_true rfl⟩ (Nat.le_of_ble_eq_true rfl) ⟨Nat.le_of_ble_eq_true rfl, Nat.le_of_ble_eq_true rfl⟩ dX7_readFrom_1 rfl (st := []) (fun I_293 J_294 h_295 => ?_)
  obtain ⟨rfl, f_297⟩ := h_295
  refine g_aload_n C 1 dX7_readFrom_4 rfl rfl ?_
  refine g_sipush C (v := 200) dX7_readFrom_5 (by decide) ?_
  refine g_callVV C K (c_Tape_begin_200 W9 hLt hkt (by rw [f_297 t 5 (by rw [hkt]; decide)]; exact h5)) hLt hkt (by decide) rfl v_7_40 rfl ⟨rfl, rfl⟩ ⟨Nat.le_of_ble_eq_true rfl, Nat.le_of_ble_eq_true rfl⟩ (Nat.le_of_ble_eq_true rfl) ⟨Nat.le_of_ble_eq_true rfl, Nat.le_of_ble_eq_true rfl⟩ dX7_readFrom_8 rfl (st := []) (fun I_299 J_300 h_301 => ?_)
  obtain ⟨g_304, f_303, v_305, v_306, v_307, v_308, v_309⟩ := h_301
  refine g_aload_n C 0 dX7_readFrom_11 rfl rfl ?_
  refine g_aload_n C 1 dX7_readFrom_12 rfl rfl ?_
  refine g_aload_n C 2 dX7_readFrom_13 rfl rfl ?_
  refine g_iconst C (v := 1) dX7_readFrom_14 (by decide) ?_
  refine g_callVI C K (c_Sen_readCond0 hLa hka hLt hkt hLb hkb (v_306) (v_307) (v_308)) hLa hka (by decide) rfl v_7_46 rfl ⟨rfl, rfl⟩ ⟨Nat.le_of_ble_eq_true rfl, Nat.le_of_ble_eq_true rfl⟩ (Nat.le_of_ble_eq_true rfl) ⟨Nat.le_of_ble_eq_true rfl, Nat.le_of_ble_eq_true rfl⟩ dX7_readFrom_15 rfl (st := []) (fun r_313 I_310 J_311 h_312 => ?_)
  obtain ⟨rfl, f_314, v_316, v_317, rfl⟩ := h_312
  refine t_if_eq C (tgt := 34) (by decide) dX7_readFrom_18 (by decide) ?_
  refine g_iconst C (v := 0) dX7_readFrom_34 (by decide) ?_
  exact g_zret (ty := .boolean) (r := 0) B K rfl (by decide) (⟨(Fj.rf).tr g_304 (by decide), (((Fk.rf).tr f_297 (by decide)).tr f_303 (by decide)).tr f_314 (by decide), v_316, v_317, rfl⟩) dX7_readFrom_35
set_option maxRecDepth 100000 in
set_option maxHeartbeats 4000000 in
theorem c_Book_readFrom0 {l : Launch} {D : va_G} {cy : Nat → ClassId} {L : List Nat} {κ ln : Nat → Nat} {R : Nat → Nat → Option Nat} {I : Nat → Nat → Int32} {J : Nat → Nat → Int64} {ow : Nat → Nat × Nat} (W9 : ∀ a ∈ L, Shp L κ ln R ow a) {a : Nat} (hLa : a ∈ L) (hka : κ a = 0) {t : Nat} (hLt : t ∈ L) (hkt : κ t = 10) {b : Nat} (hLb : b ∈ L) (hkb : κ b = 8) (h5 : I t 5 = 0) : CtV l yX0_readFrom cX0_readFrom 3 none { frames := 2, cells := 0, slots := 0, locals := 150 } D cy L κ ln R I J [.ref a, .ref t, .ref b] (fun I2 J2 => Fj κ [10, 15] J J2 ∧ Fk κ [0, 10, 14] I I2 ∧ I2 a 4 = 0 ∧ I2 t 11 = 0) := by
  refine CtV.of (by decide +kernel) (Nat.le_of_ble_eq_true rfl) ?_
  intro p e s m below meth c B K
  have C := B.1
  refine g_lo (is := [0, 1, 2]) (lo2 := [(0, .ref a), (1, .ref t), (2, .ref b)]) rfl ?_
  refine g_aload_n C 1 dX0_readFrom_0 rfl rfl ?_
  refine g_sipush C (v := 400) dX0_readFrom_1 (by decide) ?_
  refine g_callVV C K (c_Tape_begin_400 W9 hLt hkt (h5)) hLt hkt (by decide) rfl v_0_44 rfl ⟨rfl, rfl⟩ ⟨Nat.le_of_ble_eq_true rfl, Nat.le_of_ble_eq_true rfl⟩ (Nat.le_of_ble_eq_true rfl) ⟨Nat.le_of_ble_eq_true rfl, Nat.le_of_ble_eq_true rfl⟩ dX0_readFrom_4 rfl (st := []) (fun I_318 J_319 h_320 => ?_)
  obtain ⟨g_323, f_322, v_324, v_325, v_326, v_327, v_328⟩ := h_320
  refine g_aload_n C 0 dX0_readFrom_7 rfl rfl ?_
  refine g_iconst C (v := 0) dX0_readFrom_8 (by decide) ?_
  refine h_putI C K hLa hka f_0_24 p_0_4 dX0_readFrom_9 (fun I_329 hI_329 => ?_)
  refine g_aload_n C 0 dX0_readFrom_12 rfl rfl ?_
  refine g_getI C K hLa hka f_0_24 (v := 0) (by rw [hI_329]; exact u2_s) dX0_readFrom_13 ?_
  refine g_bipush C (v := 40) dX0_readFrom_16 (by decide) ?_
  refine n_icmp_gt C (tgt := 52) (by decide) dX0_readFrom_18 (by decide) ?_
  refine g_aload_n C 1 dX0_readFrom_21 rfl rfl ?_
  refine g_getI C K hLt hkt f_0_50 (v := 102) (by rw [hI_329, u2_j (by decide)]; exact v_325) dX0_readFrom_22 ?_
  refine g_bipush C (v := 102) dX0_readFrom_25 (by decide) ?_
  refine t_icmp_eq C (tgt := 52) (by decide) dX0_readFrom_27 (by decide) ?_
  exact g_vret B K rfl (⟨(Fj.rf).tr g_323 (by decide), ((Fk.rf).tr f_322 (by decide)).u2 hI_329 hka (by decide), by rw [hI_329]; exact u2_s, by rw [hI_329, u2_j (by decide)]; exact v_327⟩) dX0_readFrom_52
set_option maxRecDepth 100000 in
set_option maxHeartbeats 4000000 in
theorem c_Book_judgeBy0 {l : Launch} {D : va_G} {cy : Nat → ClassId} {L : List Nat} {κ ln : Nat → Nat} {R : Nat → Nat → Option Nat} {I : Nat → Nat → Int32} {J : Nat → Nat → Int64} {a : Nat} (hLa : a ∈ L) (hka : κ a = 0) {b : Nat} (hLb : b ∈ L) (hkb : κ b = 1) (h4 : I a 4 = 0) : CtV l yX0_judgeBy cX0_judgeBy 2 none { frames := 0, cells := 0, slots := 0, locals := 0 } D cy L κ ln R I J [.ref a, .ref b] (fun I2 J2 => J = J2 ∧ Fk κ [0] I I2 ∧ I2 a 6 = 0 ∧ I2 a 7 = 0) := by
  refine CtV.of (by decide +kernel) (Nat.le_of_ble_eq_true rfl) ?_
  intro p e s m below meth c B K
  have C := B.1
  refine g_lo (is := [0, 1]) (lo2 := [(0, .ref a), (1, .ref b)]) rfl ?_
  refine g_aload_n C 0 dX0_judgeBy_0 rfl rfl ?_
  refine g_iconst C (v := 1) dX0_judgeBy_1 (by decide) ?_
  refine h_putZ C K hLa hka f_0_28 p_0_5 (Or.inr rfl) dX0_judgeBy_2 (fun I_330 hI_330 => ?_)
  refine g_aload_n C 0 dX0_judgeBy_5 rfl rfl ?_
  refine g_iconst C (v := 0) dX0_judgeBy_6 (by decide) ?_
  refine h_putI C K hLa hka f_0_32 p_0_6 dX0_judgeBy_7 (fun I_331 hI_331 => ?_)
  refine g_aload_n C 0 dX0_judgeBy_10 rfl rfl ?_
  refine g_iconst C (v := 0) dX0_judgeBy_11 (by decide) ?_
  refine h_putI C K hLa hka f_0_35 p_0_7 dX0_judgeBy_12 (fun I_332 hI_332 => ?_)
  refine g_aload_n C 0 dX0_judgeBy_15 rfl rfl ?_
  refine g_getI C K hLa hka f_0_35 (v := 0) (by rw [hI_332]; exact u2_s) dX0_judgeBy_16 ?_
  refine g_aload_n C 0 dX0_judgeBy_19 rfl rfl ?_
  refine g_getI C K hLa hka f_0_24 (v := 0) (by rw [hI_332, u2_j (by decide), hI_331, u2_j (by decide), hI_330, u2_j (by decide)]; exact h4) dX0_judgeBy_20 ?_
  refine t_icmp_ge C (tgt := 66) (by decide) dX0_judgeBy_23 (by decide) ?_
  refine g_aload_n C 0 dX0_judgeBy_66 rfl rfl ?_
  refine g_aload_n C 1 dX0_judgeBy_67 rfl rfl ?_
  obtain ⟨x_333, hx_333⟩ : ∃ z, I_332 b 9 = z := ⟨_, rfl⟩
  refine g_getI C K hLb hkb f_0_98 hx_333 dX0_judgeBy_68 ?_
  refine h_putI C K hLa hka f_0_38 p_0_8 dX0_judgeBy_71 (fun I_334 hI_334 => ?_)
  refine g_aload_n C 0 dX0_judgeBy_74 rfl rfl ?_
  refine g_aload_n C 1 dX0_judgeBy_75 rfl rfl ?_
  obtain ⟨x_335, hx_335⟩ : ∃ z, I_334 b 7 = z := ⟨_, rfl⟩
  refine g_getI C K hLb hkb f_0_103 hx_335 dX0_judgeBy_76 ?_
  refine h_putI C K hLa hka f_0_41 p_0_9 dX0_judgeBy_79 (fun I_336 hI_336 => ?_)
  exact g_vret B K rfl (⟨rfl, (((((Fk.rf).u2 hI_330 hka (by decide)).u2 hI_331 hka (by decide)).u2 hI_332 hka (by decide)).u2 hI_334 hka (by decide)).u2 hI_336 hka (by decide), by rw [hI_336, u2_j (by decide), hI_334, u2_j (by decide), hI_332, u2_j (by decide), hI_331]; exact u2_s, by rw [hI_336, u2_j (by decide), hI_334, u2_j (by decide), hI_332]; exact u2_s⟩) dX0_judgeBy_82
set_option maxRecDepth 100000 in
set_option maxHeartbeats 4000000 in
theorem c_TR_readFrom0 {l : Launch} {D : va_G} {cy : Nat → ClassId} {L : List Nat} {κ ln : Nat → Nat} {R : Nat → Nat → Option Nat} {I : Nat → Nat → Int32} {J : Nat → Nat → Int64} {ow : Nat → Nat × Nat} (W9 : ∀ a ∈ L, Shp L κ ln R ow a) {a : Nat} (hLa : a ∈ L) (hka : κ a = 9) {t : Nat} (hLt : t ∈ L) (hkt : κ t = 10) (Z1 : Zk L κ 1 I) (Z8 : Zk L κ 8 I) (h5 : I t 5 = 0) : CtI l yX9_readFrom cX9_readFrom 3 (some .int) { frames := 2, cells := 0, slots := 0, locals := 150 } D cy L κ ln R I J [.ref a, .ref t] (fun r I2 J2 => Fj κ [10, 15] J J2 ∧ Fk κ [1, 8, 9, 10, 14] I I2 ∧ Zk L κ 1 I2 ∧ Zk L κ 8 I2 ∧ I2 t 11 = 0 ∧ r = 0) := by
  refine CtI.of (by decide +kernel) (Nat.le_of_ble_eq_true rfl) ?_
  intro p e s m below meth c B K
  have C := B.1
  refine g_lo (is := [0, 1]) (lo2 := [(0, .ref a), (1, .ref t)]) rfl ?_
  refine g_aload_n C 0 dX9_readFrom_0 rfl rfl ?_
  obtain ⟨b_337, hb_337, hb_337L, hb_337k⟩ := shp_o (W9 a hLa) hka 0 8 rfl (by decide)
  refine g_getR C K hLa hka f_9_12 hb_337 dX9_readFrom_1 ?_
  refine g_callVV C K (c_Table_forget hb_337L hb_337k (Z8)) hb_337L hb_337k (by decide) rfl v_9_34 rfl ⟨rfl, rfl⟩ ⟨Nat.le_of_ble_eq_true rfl, Nat.le_of_ble_eq_true rfl⟩ (Nat.le_of_ble_eq_true rfl) ⟨Nat.le_of_ble_eq_true rfl, Nat.le_of_ble_eq_true rfl⟩ dX9_readFrom_4 rfl (st := []) (fun I_338 J_339 h_340 => ?_)
  obtain ⟨rfl, f_342, z_344⟩ := h_340
  refine g_aload_n C 0 dX9_readFrom_7 rfl rfl ?_
  obtain ⟨b_345, hb_345, hb_345L, hb_345k⟩ := shp_o (W9 a hLa) hka 1 1 rfl (by decide)
  refine g_getR C K hLa hka f_9_23 hb_345 dX9_readFrom_8 ?_
  refine g_callVV C K (c_Course_forget W9 hb_345L hb_345k ((Z1).fk f_342 (by decide))) hb_345L hb_345k (by decide) rfl v_9_37 rfl ⟨rfl, rfl⟩ ⟨Nat.le_of_ble_eq_true rfl, Nat.le_of_ble_eq_true rfl⟩ (Nat.le_of_ble_eq_true rfl) ⟨Nat.le_of_ble_eq_true rfl, Nat.le_of_ble_eq_true rfl⟩ dX9_readFrom_11 rfl (st := []) (fun I_346 J_347 h_348 => ?_)
  obtain ⟨rfl, f_350, z_352⟩ := h_348
  refine g_aload_n C 0 dX9_readFrom_14 rfl rfl ?_
  refine g_iconst C (v := 0) dX9_readFrom_15 (by decide) ?_
  refine h_putZ C K hLa hka f_9_27 p_9_2 (Or.inl rfl) dX9_readFrom_16 (fun I_353 hI_353 => ?_)
  refine g_aload_n C 0 dX9_readFrom_19 rfl rfl ?_
  refine g_iconst C (v := 0) dX9_readFrom_20 (by decide) ?_
  refine h_putZ C K hLa hka f_9_31 p_9_3 (Or.inl rfl) dX9_readFrom_21 (fun I_354 hI_354 => ?_)
  refine g_aload_n C 1 dX9_readFrom_24 rfl rfl ?_
  refine g_sipush C (v := 900) dX9_readFrom_25 (by decide) ?_
  refine g_callVV C K (c_Tape_begin_900 W9 hLt hkt (by rw [hI_354, u2_j (by decide), hI_353, u2_j (by decide), f_350 t 5 (by rw [hkt]; decide), f_342 t 5 (by rw [hkt]; decide)]; exact h5)) hLt hkt (by decide) rfl v_9_38 rfl ⟨rfl, rfl⟩ ⟨Nat.le_of_ble_eq_true rfl, Nat.le_of_ble_eq_true rfl⟩ (Nat.le_of_ble_eq_true rfl) ⟨Nat.le_of_ble_eq_true rfl, Nat.le_of_ble_eq_true rfl⟩ dX9_readFrom_28 rfl (st := []) (fun I_355 J_356 h_357 => ?_)
  obtain ⟨g_360, f_359, v_361, v_362, v_363, v_364, v_365⟩ := h_357
  refine g_iconst C (v := 0) dX9_readFrom_31 (by decide) ?_
  refine g_istore_n C dX9_readFrom_32 rfl (by decide) (lo2 := [(2, .int 0), (0, .ref a), (1, .ref t)]) rfl ?_
  refine g_iload_n C 0 dX9_readFrom_33 rfl rfl ?_
  refine g_sipush C (v := 900) dX9_readFrom_34 (by decide) ?_
  refine n_icmp_ge C (tgt := 63) (by decide) dX9_readFrom_37 (by decide) ?_
  refine g_aload_n C 2 dX9_readFrom_40 rfl rfl ?_
  refine g_getI C K hLt hkt f_9_44 (v := 102) (v_362) dX9_readFrom_41 ?_
  refine g_bipush C (v := 102) dX9_readFrom_44 (by decide) ?_
  refine t_icmp_eq C (tgt := 63) (by decide) dX9_readFrom_46 (by decide) ?_
  refine g_iload_n C 0 dX9_readFrom_63 rfl rfl ?_
  exact g_zret (ty := .int) (r := 0) B K rfl rfl (⟨(Fj.rf).tr g_360 (by decide), (((((Fk.rf).tr f_342 (by decide)).tr f_350 (by decide)).u2 hI_353 hka (by decide)).u2 hI_354 hka (by decide)).tr f_359 (by decide), (((z_352).u2 hI_353 rfl).u2 hI_354 rfl).fk f_359 (by decide), ((((z_344).fk f_350 (by decide)).u2 hI_353 rfl).u2 hI_354 rfl).fk f_359 (by decide), v_364, rfl⟩) dX9_readFrom_64
set_option maxRecDepth 100000 in
set_option maxHeartbeats 4000000 in
theorem c_Order_goOn0 {l : Launch} {D : va_G} {cy : Nat → ClassId} {L : List Nat} {κ ln : Nat → Nat} {R : Nat → Nat → Option Nat} {I : Nat → Nat → Int32} {J : Nat → Nat → Int64} {ow : Nat → Nat × Nat} (W9 : ∀ a ∈ L, Shp L κ ln R ow a) {a : Nat} (hLa : a ∈ L) (hka : κ a = 4) : CtV l yX4_goOn cX4_goOn 9 none { frames := 1, cells := 0, slots := 0, locals := 100 } D cy L κ ln R I J [.ref a, .int 0, .int 0, .int 0] (fun I2 J2 => J = J2 ∧ Fk κ [4, 14] I I2 ∧ I2 a 4 = 0) := by
  refine CtV.of (by decide +kernel) (Nat.le_of_ble_eq_true rfl) ?_
  intro p e s m below meth c B K
  have C := B.1
  refine g_lo (is := [0, 1, 2, 3]) (lo2 := [(0, .ref a), (1, .int 0), (2, .int 0), (3, .int 0)]) rfl ?_
  refine g_iload_n C 2 dX4_goOn_0 rfl rfl ?_
  refine t_if_eq C (tgt := 10) (by decide) dX4_goOn_1 (by decide) ?_
  refine g_aload_n C 0 dX4_goOn_10 rfl rfl ?_
  refine g_iload_n C 3 dX4_goOn_11 rfl rfl ?_
  refine h_putI C K hLa hka f_4_28 p_4_4 dX4_goOn_12 (fun I_366 hI_366 => ?_)
  refine g_aload_n C 0 dX4_goOn_15 rfl rfl ?_
  obtain ⟨b_367, hb_367, hb_367L, hb_367k, hb_367n, hb_367o⟩ := shp_a (W9 a hLa) hka 1 14 7 rfl (by decide)
  refine g_getR C K hLa hka f_4_17 hb_367 dX4_goOn_16 ?_
  refine g_iconst C (v := 0) dX4_goOn_19 (by decide) ?_
  refine g_aload_n C 0 dX4_goOn_20 rfl rfl ?_
  obtain ⟨b_368, hb_368, hb_368L, hb_368k, hb_368n, hb_368o⟩ := shp_a (W9 a hLa) hka 2 14 7 rfl (by decide)
  refine g_getR C K hLa hka f_4_21 hb_368 dX4_goOn_21 ?_
  refine g_iconst C (v := 0) dX4_goOn_24 (by decide) ?_
  refine g_bipush C (v := 7) dX4_goOn_25 (by decide) ?_
  refine h_copyI C K hb_368L hb_368k hb_367L hb_367k ac_4_52 7 (by decide) (by decide) (by rw [hb_367n]; decide) (by rw [hb_368n]; decide) w_cp (Nat.le_of_ble_eq_true rfl) (Nat.le_of_ble_eq_true rfl) dX4_goOn_27 (fun I_369 hI_369 => ?_)
  exact g_vret B K rfl (⟨rfl, ((Fk.rf).u2 hI_366 hka (by decide)).k2 hI_369 hb_368k (by decide), by rw [hI_369, k2_k (κ := κ) (by rw [hka, hb_368k]; decide), hI_366]; exact u2_s⟩) dX4_goOn_30
set_option maxRecDepth 100000 in
set_option maxHeartbeats 4000000 in
theorem c_Order_findFrom0 {l : Launch} {D : va_G} {cy : Nat → ClassId} {L : List Nat} {κ ln : Nat → Nat} {R : Nat → Nat → Option Nat} {I : Nat → Nat → Int32} {J : Nat → Nat → Int64} {ow : Nat → Nat × Nat} (W9 : ∀ a ∈ L, Shp L κ ln R ow a) {a : Nat} (hLa : a ∈ L) (hka : κ a = 4) {b : Nat} (hLb : b ∈ L) (hkb : κ b = 1) (Z1 : Zk L κ 1 I) (Z8 : Zk L κ 8 I) : CtI l yX4_findFrom cX4_findFrom 2 (some .int) { frames := 3, cells := 0, slots := 0, locals := 200 } D cy L κ ln R I J [.ref a, .ref b] (fun r I2 J2 => J = J2 ∧ Fk κ [1, 4, 14] I I2 ∧ r = 0) := by
  refine CtI.of (by decide +kernel) (Nat.le_of_ble_eq_true rfl) ?_
  intro p e s m below meth c B K
  have C := B.1
  refine g_lo (is := [0, 1]) (lo2 := [(0, .ref a), (1, .ref b)]) rfl ?_
  refine g_aload_n C 0 dX4_findFrom_0 rfl rfl ?_
  refine g_aload_n C 1 dX4_findFrom_1 rfl rfl ?_
  refine g_callVI C K (c_Course_living0 W9 hLb hkb (Z1) (Z8)) hLb hkb (by decide) rfl v_4_34 rfl ⟨rfl, rfl⟩ ⟨Nat.le_of_ble_eq_true rfl, Nat.le_of_ble_eq_true rfl⟩ (Nat.le_of_ble_eq_true rfl) ⟨Nat.le_of_ble_eq_true rfl, Nat.le_of_ble_eq_true rfl⟩ dX4_findFrom_2 rfl (st := [.ref a]) (fun r_373 I_370 J_371 h_372 => ?_)
  obtain ⟨rfl, rfl, er_373⟩ := h_372
  have h0r_373 := er_373
  subst er_373
  refine g_callSI C K (c_bitCount0 ) s_4_38 rfl ⟨rfl, rfl⟩ ⟨Nat.le_of_ble_eq_true rfl, Nat.le_of_ble_eq_true rfl⟩ (Nat.le_of_ble_eq_true rfl) ⟨Nat.le_of_ble_eq_true rfl, Nat.le_of_ble_eq_true rfl⟩ dX4_findFrom_5 rfl (st := [.ref a]) (fun r_377 I_374 J_375 h_376 => ?_)
  obtain ⟨rfl, rfl, er_377⟩ := h_376
  have h0r_377 := er_377
  subst er_377
  refine h_putI C K hLa hka f_4_24 p_4_3 dX4_findFrom_8 (fun I_378 hI_378 => ?_)
  refine g_aload_n C 0 dX4_findFrom_11 rfl rfl ?_
  refine g_sipush C (v := 1000) dX4_findFrom_12 (by decide) ?_
  refine h_putI C K hLa hka f_4_28 p_4_4 dX4_findFrom_15 (fun I_379 hI_379 => ?_)
  refine g_aload_n C 0 dX4_findFrom_18 rfl rfl ?_
  obtain ⟨b_380, hb_380, hb_380L, hb_380k, hb_380n, hb_380o⟩ := shp_a (W9 a hLa) hka 0 17 8 rfl (by decide)
  refine g_getR C K hLa hka f_4_11 hb_380 dX4_findFrom_19 ?_
  refine g_iconst C (v := 0) dX4_findFrom_22 (by decide) ?_
  obtain ⟨b_381, hb_381, hb_381L, hb_381k⟩ := (W9 b_380 hb_380L).2.1 hb_380k (0) (by rw [hb_380n]; decide)
  refine h_aaldC C K hb_380L hb_380k (0) (by decide) (by decide) (by rw [hb_380n]; decide) hb_381 dX4_findFrom_23 ?_
  refine g_aload_n C 1 dX4_findFrom_24 rfl rfl ?_
  refine g_callVV C K (c_Course_become W9 hb_381L hb_381k hLb hkb (((Z1).u2 hI_378 rfl).u2k hI_379 hka (by decide))) hb_381L hb_381k (by decide) rfl v_4_44 rfl ⟨rfl, rfl⟩ ⟨Nat.le_of_ble_eq_true rfl, Nat.le_of_ble_eq_true rfl⟩ (Nat.le_of_ble_eq_true rfl) ⟨Nat.le_of_ble_eq_true rfl, Nat.le_of_ble_eq_true rfl⟩ dX4_findFrom_25 rfl (st := []) (fun I_382 J_383 h_384 => ?_)
  obtain ⟨rfl, f_386, z_388⟩ := h_384
  refine g_aload_n C 0 dX4_findFrom_28 rfl rfl ?_
  refine g_iconst C (v := 0) dX4_findFrom_29 (by decide) ?_
  refine g_aload_n C 1 dX4_findFrom_30 rfl rfl ?_
  refine g_callVI C K (c_Course_living0 W9 hLb hkb (z_388) ((((Z8).u2 hI_378 rfl).u2k hI_379 hka (by decide)).fk f_386 (by decide))) hLb hkb (by decide) rfl v_4_34 rfl ⟨rfl, rfl⟩ ⟨Nat.le_of_ble_eq_true rfl, Nat.le_of_ble_eq_true rfl⟩ (Nat.le_of_ble_eq_true rfl) ⟨Nat.le_of_ble_eq_true rfl, Nat.le_of_ble_eq_true rfl⟩ dX4_findFrom_31 rfl (st := [.int 0, .ref a]) (fun r_392 I_389 J_390 h_391 => ?_)
  obtain ⟨rfl, rfl, er_392⟩ := h_391
  have h0r_392 := er_392
  subst er_392
  refine g_iconst C (v := 0) dX4_findFrom_34 (by decide) ?_
  refine g_callVV C K (c_Order_goOn0 W9 hLa hka) hLa hka (by decide) rfl v_4_48 rfl ⟨rfl, rfl⟩ ⟨Nat.le_of_ble_eq_true rfl, Nat.le_of_ble_eq_true rfl⟩ (Nat.le_of_ble_eq_true rfl) ⟨Nat.le_of_ble_eq_true rfl, Nat.le_of_ble_eq_true rfl⟩ dX4_findFrom_35 rfl (st := []) (fun I_393 J_394 h_395 => ?_)
  obtain ⟨rfl, f_397, v_399⟩ := h_395
  refine g_aload_n C 0 dX4_findFrom_38 rfl rfl ?_
  refine g_getI C K hLa hka f_4_28 (v := 0) (v_399) dX4_findFrom_39 ?_
  exact g_zret (ty := .int) (r := 0) B K rfl rfl (⟨rfl, ((((Fk.rf).u2 hI_378 hka (by decide)).u2 hI_379 hka (by decide)).tr f_386 (by decide)).tr f_397 (by decide), rfl⟩) dX4_findFrom_42
set_option maxRecDepth 100000 in
set_option maxHeartbeats 4000000 in
theorem c_Seat_parentsAmong0 {l : Launch} {D : va_G} {cy : Nat → ClassId} {L : List Nat} {κ ln : Nat → Nat} {R : Nat → Nat → Option Nat} {I : Nat → Nat → Int32} {J : Nat → Nat → Int64} {a : Nat} (hLa : a ∈ L) (hka : κ a = 8) (h5 : I a 5 = 0) : CtI l yX6_parentsAmong cX6_parentsAmong 5 (some .int) { frames := 0, cells := 0, slots := 0, locals := 0 } D cy L κ ln R I J [.ref a, .int 0, .int 0] (fun r I2 J2 => I = I2 ∧ J = J2 ∧ r = 0) := by
  refine CtI.of (by decide +kernel) (Nat.le_of_ble_eq_true rfl) ?_
  intro p e s m below meth c B K
  have C := B.1
  refine g_lo (is := [0, 1, 2]) (lo2 := [(0, .ref a), (1, .int 0), (2, .int 0)]) rfl ?_
  refine g_iconst C (v := 0) dX6_parentsAmong_0 (by decide) ?_
  refine g_istore_n C dX6_parentsAmong_1 rfl (by decide) (lo2 := [(3, .int 0), (0, .ref a), (1, .int 0), (2, .int 0)]) rfl ?_
  refine g_iconst C (v := 0) dX6_parentsAmong_2 (by decide) ?_
  refine g_istore C dX6_parentsAmong_3 (by decide) (lo2 := [(4, .int 0), (3, .int 0), (0, .ref a), (1, .int 0), (2, .int 0)]) rfl ?_
  refine g_iload C 0 dX6_parentsAmong_5 rfl ?_
  refine g_aload_n C 2 dX6_parentsAmong_7 rfl rfl ?_
  refine g_getI C K hLa hka f_6_33 (v := 0) (h5) dX6_parentsAmong_8 ?_
  refine t_icmp_ge C (tgt := 43) (by decide) dX6_parentsAmong_11 (by decide) ?_
  refine g_iload_n C 1 dX6_parentsAmong_43 rfl rfl ?_
  exact g_zret (ty := .int) (r := 0) B K rfl rfl (⟨rfl, rfl, rfl⟩) dX6_parentsAmong_44
set_option maxRecDepth 100000 in
set_option maxHeartbeats 4000000 in
theorem c_Seat_seat0 {l : Launch} {D : va_G} {cy : Nat → ClassId} {L : List Nat} {κ ln : Nat → Nat} {R : Nat → Nat → Option Nat} {I : Nat → Nat → Int32} {J : Nat → Nat → Int64} {ow : Nat → Nat × Nat} (W9 : ∀ a ∈ L, Shp L κ ln R ow a) {a : Nat} (hLa : a ∈ L) (hka : κ a = 6) {b : Nat} (hLb : b ∈ L) (hkb : κ b = 1) (Z1 : Zk L κ 1 I) (Z8 : Zk L κ 8 I) : CtI l yX6_seat cX6_seat 9 (some .int) { frames := 2, cells := 0, slots := 0, locals := 150 } D cy L κ ln R I J [.ref a, .ref b] (fun r I2 J2 => J = J2 ∧ Fk κ [6] I I2 ∧ r = 0) := by
  refine CtI.of (by decide +kernel) (Nat.le_of_ble_eq_true rfl) ?_
  intro p e s m below meth c B K
  have C := B.1
  refine g_lo (is := [0, 1]) (lo2 := [(0, .ref a), (1, .ref b)]) rfl ?_
  refine g_aload_n C 1 dX6_seat_0 rfl rfl ?_
  obtain ⟨b_400, hb_400, hb_400L, hb_400k⟩ := shp_o (W9 b hLb) hkb 0 8 rfl (by decide)
  refine g_getR C K hLb hkb f_6_19 hb_400 dX6_seat_1 ?_
  refine g_astore_n C dX6_seat_4 rfl (by decide) (lo2 := [(2, .ref b_400), (0, .ref a), (1, .ref b)]) rfl ?_
  refine g_aload_n C 2 dX6_seat_5 rfl rfl ?_
  refine g_callVI C K (c_Course_living0 W9 hLb hkb (Z1) (Z8)) hLb hkb (by decide) rfl v_6_25 rfl ⟨rfl, rfl⟩ ⟨Nat.le_of_ble_eq_true rfl, Nat.le_of_ble_eq_true rfl⟩ (Nat.le_of_ble_eq_true rfl) ⟨Nat.le_of_ble_eq_true rfl, Nat.le_of_ble_eq_true rfl⟩ dX6_seat_6 rfl (st := []) (fun r_404 I_401 J_402 h_403 => ?_)
  obtain ⟨rfl, rfl, er_404⟩ := h_403
  have h0r_404 := er_404
  subst er_404
  refine g_istore_n C dX6_seat_9 rfl (by decide) (lo2 := [(3, .int 0), (2, .ref b_400), (0, .ref a), (1, .ref b)]) rfl ?_
  refine g_aload_n C 1 dX6_seat_10 rfl rfl ?_
  refine g_iload_n C 0 dX6_seat_11 rfl rfl ?_
  refine g_iload_n C 0 dX6_seat_12 rfl rfl ?_
  refine g_callSI C K (c_Seat_parentsAmong0 hb_400L hb_400k (Z8 b_400 hb_400L hb_400k 5)) s_6_29 rfl ⟨rfl, rfl⟩ ⟨Nat.le_of_ble_eq_true rfl, Nat.le_of_ble_eq_true rfl⟩ (Nat.le_of_ble_eq_true rfl) ⟨Nat.le_of_ble_eq_true rfl, Nat.le_of_ble_eq_true rfl⟩ dX6_seat_13 rfl (st := []) (fun r_408 I_405 J_406 h_407 => ?_)
  obtain ⟨rfl, rfl, er_408⟩ := h_407
  have h0r_408 := er_408
  subst er_408
  refine g_istore C dX6_seat_16 (by decide) (lo2 := [(4, .int 0), (3, .int 0), (2, .ref b_400), (0, .ref a), (1, .ref b)]) rfl ?_
  refine g_iconst C (v := 0) dX6_seat_18 (by decide) ?_
  refine g_istore C dX6_seat_19 (by decide) (lo2 := [(5, .int 0), (4, .int 0), (3, .int 0), (2, .ref b_400), (0, .ref a), (1, .ref b)]) rfl ?_
  refine g_iconst C (v := (-1)) dX6_seat_21 (by decide) ?_
  refine g_istore C dX6_seat_22 (by decide) (lo2 := [(6, .int (-1)), (5, .int 0), (4, .int 0), (3, .int 0), (2, .ref b_400), (0, .ref a), (1, .ref b)]) rfl ?_
  refine g_aload_n C 5 dX6_seat_24 rfl rfl ?_
  refine g_iconst C (v := 0) dX6_seat_25 (by decide) ?_
  refine h_putI C K hLa hka f_6_15 p_6_1 dX6_seat_26 (fun I_409 hI_409 => ?_)
  refine g_iconst C (v := 0) dX6_seat_29 (by decide) ?_
  refine g_istore C dX6_seat_30 (by decide) (lo2 := [(7, .int 0), (6, .int (-1)), (5, .int 0), (4, .int 0), (3, .int 0), (2, .ref b_400), (0, .ref a), (1, .ref b)]) rfl ?_
  refine g_iload C 0 dX6_seat_32 rfl ?_
  refine g_aload_n C 5 dX6_seat_34 rfl rfl ?_
  refine g_getI C K hb_400L hb_400k f_6_33 (v := 0) (by rw [hI_409, u2_j (by decide)]; exact Z8 b_400 hb_400L hb_400k 5) dX6_seat_35 ?_
  refine t_icmp_ge C (tgt := 130) (by decide) dX6_seat_38 (by decide) ?_
  refine g_iload C 2 dX6_seat_130 rfl ?_
  exact g_zret (ty := .int) (r := 0) B K rfl rfl (⟨rfl, (Fk.rf).u2 hI_409 hka (by decide), rfl⟩) dX6_seat_132
set_option maxRecDepth 100000 in
set_option maxHeartbeats 4000000 in
theorem c_Image_keep0 {l : Launch} {D : va_G} {cy : Nat → ClassId} {L : List Nat} {κ ln : Nat → Nat} {R : Nat → Nat → Option Nat} {I : Nat → Nat → Int32} {J : Nat → Nat → Int64} {ow : Nat → Nat × Nat} (W9 : ∀ a ∈ L, Shp L κ ln R ow a) {a : Nat} (hLa : a ∈ L) (hka : κ a = 3) {b : Nat} (hLb : b ∈ L) (hkb : κ b = 8) {c9 : Nat} (hLc9 : c9 ∈ L) (hkc9 : κ c9 = 1) {d : Nat} (hLd : d ∈ L) (hkd : κ d = 7) (Z1 : Zk L κ 1 I) (Z8 : Zk L κ 8 I) : CtV l yX3_keep cX3_keep 4 none { frames := 2, cells := 0, slots := 0, locals := 150 } D cy L κ ln R I J [.ref a, .ref b, .ref c9, .ref d] (fun I2 J2 => Fj κ [15] J J2 ∧ Fk κ [1, 3, 7, 8, 14] I I2) := by
  refine CtV.of (by decide +kernel) (Nat.le_of_ble_eq_true rfl) ?_
  intro p e s m below meth c B K
  have C := B.1
  refine g_lo (is := [0, 1, 2, 3]) (lo2 := [(0, .ref a), (1, .ref b), (2, .ref c9), (3, .ref d)]) rfl ?_
  refine g_aload_n C 0 dX3_keep_0 rfl rfl ?_
  obtain ⟨b_410, hb_410, hb_410L, hb_410k⟩ := shp_o (W9 a hLa) hka 0 8 rfl (by decide)
  refine g_getR C K hLa hka f_3_10 hb_410 dX3_keep_1 ?_
  refine g_aload_n C 1 dX3_keep_4 rfl rfl ?_
  refine g_callVV C K (c_Table_become W9 hb_410L hb_410k hLb hkb (Z8)) hb_410L hb_410k (by decide) rfl v_3_36 rfl ⟨rfl, rfl⟩ ⟨Nat.le_of_ble_eq_true rfl, Nat.le_of_ble_eq_true rfl⟩ (Nat.le_of_ble_eq_true rfl) ⟨Nat.le_of_ble_eq_true rfl, Nat.le_of_ble_eq_true rfl⟩ dX3_keep_5 rfl (st := []) (fun I_411 J_412 h_413 => ?_)
  obtain ⟨g_416, f_415, z_417⟩ := h_413
  refine g_aload_n C 0 dX3_keep_8 rfl rfl ?_
  obtain ⟨b_418, hb_418, hb_418L, hb_418k⟩ := shp_o (W9 a hLa) hka 1 1 rfl (by decide)
  refine g_getR C K hLa hka f_3_21 hb_418 dX3_keep_9 ?_
  refine g_aload_n C 2 dX3_keep_12 rfl rfl ?_
  refine g_callVV C K (c_Course_become W9 hb_418L hb_418k hLc9 hkc9 ((Z1).fk f_415 (by decide))) hb_418L hb_418k (by decide) rfl v_3_39 rfl ⟨rfl, rfl⟩ ⟨Nat.le_of_ble_eq_true rfl, Nat.le_of_ble_eq_true rfl⟩ (Nat.le_of_ble_eq_true rfl) ⟨Nat.le_of_ble_eq_true rfl, Nat.le_of_ble_eq_true rfl⟩ dX3_keep_13 rfl (st := []) (fun I_419 J_420 h_421 => ?_)
  obtain ⟨rfl, f_423, z_425⟩ := h_421
  refine g_aload_n C 0 dX3_keep_16 rfl rfl ?_
  obtain ⟨b_426, hb_426, hb_426L, hb_426k⟩ := shp_o (W9 a hLa) hka 2 7 rfl (by decide)
  refine g_getR C K hLa hka f_3_28 hb_426 dX3_keep_17 ?_
  refine g_aload_n C 3 dX3_keep_20 rfl rfl ?_
  refine g_callVV C K (c_Sen_become W9 hb_426L hb_426k hLd hkd) hb_426L hb_426k (by decide) rfl v_3_42 rfl ⟨rfl, rfl⟩ ⟨Nat.le_of_ble_eq_true rfl, Nat.le_of_ble_eq_true rfl⟩ (Nat.le_of_ble_eq_true rfl) ⟨Nat.le_of_ble_eq_true rfl, Nat.le_of_ble_eq_true rfl⟩ dX3_keep_21 rfl (st := []) (fun I_427 J_428 h_429 => ?_)
  obtain ⟨rfl, f_431⟩ := h_429
  refine g_aload_n C 0 dX3_keep_24 rfl rfl ?_
  refine g_iconst C (v := 1) dX3_keep_25 (by decide) ?_
  refine h_putZ C K hLa hka f_3_32 p_3_3 (Or.inr rfl) dX3_keep_26 (fun I_433 hI_433 => ?_)
  exact g_vret B K rfl (⟨(Fj.rf).tr g_416 (by decide), ((((Fk.rf).tr f_415 (by decide)).tr f_423 (by decide)).tr f_431 (by decide)).u2 hI_433 hka (by decide)⟩) dX3_keep_29
end
section
theorem dX11_accept_0 : decode cX11_accept 0 = .ok (.aload_n 0, 1) := by decide +kernel
theorem dX11_accept_1 : decode cX11_accept 1 = .ok (.getfield 19, 3) := by decide +kernel
theorem dX11_accept_4 : decode cX11_accept 4 = .ok (.iload_n 1, 1) := by decide +kernel
theorem dX11_accept_5 : decode cX11_accept 5 = .ok (.invokevirtual 133, 3) := by decide +kernel
theorem dX11_accept_8 : decode cX11_accept 8 = .ok (.ifCond .ne 5, 3) := by decide +kernel
theorem dX11_accept_11 : decode cX11_accept 11 = .ok (.iconst (-1), 1) := by decide +kernel
theorem dX11_accept_12 : decode cX11_accept 12 = .ok (.ireturn, 1) := by decide +kernel
theorem dX11_ask_0 : decode cX11_ask 0 = .ok (.aload_n 0, 1) := by decide +kernel
theorem dX11_ask_1 : decode cX11_ask 1 = .ok (.getfield 83, 3) := by decide +kernel
theorem dX11_ask_4 : decode cX11_ask 4 = .ok (.getfield 285, 3) := by decide +kernel
theorem dX11_ask_7 : decode cX11_ask 7 = .ok (.ireturn, 1) := by decide +kernel
theorem dX11_byteAt_0 : decode cX11_byteAt 0 = .ok (.iload_n 1, 1) := by decide +kernel
theorem dX11_byteAt_1 : decode cX11_byteAt 1 = .ok (.ifCond .lt 20, 3) := by decide +kernel
theorem dX11_byteAt_4 : decode cX11_byteAt 4 = .ok (.iload_n 1, 1) := by decide +kernel
theorem dX11_byteAt_5 : decode cX11_byteAt 5 = .ok (.aload_n 0, 1) := by decide +kernel
theorem dX11_byteAt_6 : decode cX11_byteAt 6 = .ok (.getfield 97, 3) := by decide +kernel
theorem dX11_byteAt_9 : decode cX11_byteAt 9 = .ok (.if_icmp .ge 12, 3) := by decide +kernel
theorem dX11_byteAt_21 : decode cX11_byteAt 21 = .ok (.iconst (-1), 1) := by decide +kernel
theorem dX11_byteAt_22 : decode cX11_byteAt 22 = .ok (.ireturn, 1) := by decide +kernel
theorem dX11_count_0 : decode cX11_count 0 = .ok (.iload_n 1, 1) := by decide +kernel
theorem dX11_count_1 : decode cX11_count 1 = .ok (.tableswitch 75 0 4 #[35, 43, 51, 59, 67], 35) := by decide +kernel
theorem dX11_count_36 : decode cX11_count 36 = .ok (.aload_n 0, 1) := by decide +kernel
theorem dX11_count_37 : decode cX11_count 37 = .ok (.getfield 19, 3) := by decide +kernel
theorem dX11_count_40 : decode cX11_count 40 = .ok (.getfield 213, 3) := by decide +kernel
theorem dX11_count_43 : decode cX11_count 43 = .ok (.ireturn, 1) := by decide +kernel
theorem dX11_count_44 : decode cX11_count 44 = .ok (.aload_n 0, 1) := by decide +kernel
theorem dX11_count_45 : decode cX11_count 45 = .ok (.getfield 19, 3) := by decide +kernel
theorem dX11_count_48 : decode cX11_count 48 = .ok (.getfield 216, 3) := by decide +kernel
theorem dX11_count_51 : decode cX11_count 51 = .ok (.ireturn, 1) := by decide +kernel
theorem dX11_count_52 : decode cX11_count 52 = .ok (.aload_n 0, 1) := by decide +kernel
theorem dX11_count_53 : decode cX11_count 53 = .ok (.getfield 19, 3) := by decide +kernel
theorem dX11_count_56 : decode cX11_count 56 = .ok (.getfield 219, 3) := by decide +kernel
theorem dX11_count_59 : decode cX11_count 59 = .ok (.ireturn, 1) := by decide +kernel
theorem dX11_count_60 : decode cX11_count 60 = .ok (.aload_n 0, 1) := by decide +kernel
theorem dX11_count_61 : decode cX11_count 61 = .ok (.getfield 19, 3) := by decide +kernel
theorem dX11_count_64 : decode cX11_count 64 = .ok (.getfield 222, 3) := by decide +kernel
theorem dX11_count_67 : decode cX11_count 67 = .ok (.ireturn, 1) := by decide +kernel
theorem dX11_count_68 : decode cX11_count 68 = .ok (.aload_n 0, 1) := by decide +kernel
theorem dX11_count_69 : decode cX11_count 69 = .ok (.getfield 10, 3) := by decide +kernel
theorem dX11_count_72 : decode cX11_count 72 = .ok (.getfield 102, 3) := by decide +kernel
theorem dX11_count_75 : decode cX11_count 75 = .ok (.ireturn, 1) := by decide +kernel
theorem dX11_count_76 : decode cX11_count 76 = .ok (.iconst (-1), 1) := by decide +kernel
theorem dX11_count_77 : decode cX11_count 77 = .ok (.ireturn, 1) := by decide +kernel
theorem dX11_die_0 : decode cX11_die 0 = .ok (.aload_n 0, 1) := by decide +kernel
theorem dX11_die_1 : decode cX11_die 1 = .ok (.getfield 19, 3) := by decide +kernel
theorem dX11_die_4 : decode cX11_die 4 = .ok (.iload_n 1, 1) := by decide +kernel
theorem dX11_die_5 : decode cX11_die 5 = .ok (.invokevirtual 133, 3) := by decide +kernel
theorem dX11_die_8 : decode cX11_die 8 = .ok (.ifCond .ne 5, 3) := by decide +kernel
theorem dX11_die_11 : decode cX11_die 11 = .ok (.iconst (-1), 1) := by decide +kernel
theorem dX11_die_12 : decode cX11_die 12 = .ok (.ireturn, 1) := by decide +kernel
theorem dX11_dish_0 : decode cX11_dish 0 = .ok (.aload_n 0, 1) := by decide +kernel
theorem dX11_dish_1 : decode cX11_dish 1 = .ok (.getfield 19, 3) := by decide +kernel
theorem dX11_dish_4 : decode cX11_dish 4 = .ok (.iload_n 1, 1) := by decide +kernel
theorem dX11_dish_5 : decode cX11_dish 5 = .ok (.invokevirtual 175, 3) := by decide +kernel
theorem dX11_dish_8 : decode cX11_dish 8 = .ok (.ifCond .ne 5, 3) := by decide +kernel
theorem dX11_dish_11 : decode cX11_dish 11 = .ok (.iconst (-1), 1) := by decide +kernel
theorem dX11_dish_12 : decode cX11_dish 12 = .ok (.ireturn, 1) := by decide +kernel
theorem dX11_drawn_0 : decode cX11_drawn 0 = .ok (.iload_n 1, 1) := by decide +kernel
theorem dX11_drawn_1 : decode cX11_drawn 1 = .ok (.iconst 1, 1) := by decide +kernel
theorem dX11_drawn_2 : decode cX11_drawn 2 = .ok (.if_icmp .lt 19, 3) := by decide +kernel
theorem dX11_drawn_5 : decode cX11_drawn 5 = .ok (.iload_n 1, 1) := by decide +kernel
theorem dX11_drawn_6 : decode cX11_drawn 6 = .ok (.bipush 60, 2) := by decide +kernel
theorem dX11_drawn_8 : decode cX11_drawn 8 = .ok (.if_icmp .gt 13, 3) := by decide +kernel
theorem dX11_drawn_11 : decode cX11_drawn 11 = .ok (.aload_n 0, 1) := by decide +kernel
theorem dX11_drawn_12 : decode cX11_drawn 12 = .ok (.getfield 19, 3) := by decide +kernel
theorem dX11_drawn_15 : decode cX11_drawn 15 = .ok (.getfield 213, 3) := by decide +kernel
theorem dX11_drawn_18 : decode cX11_drawn 18 = .ok (.ifCond .ne 5, 3) := by decide +kernel
theorem dX11_drawn_21 : decode cX11_drawn 21 = .ok (.iconst (-1), 1) := by decide +kernel
theorem dX11_drawn_22 : decode cX11_drawn 22 = .ok (.ireturn, 1) := by decide +kernel
theorem dX11_eat_0 : decode cX11_eat 0 = .ok (.aload_n 0, 1) := by decide +kernel
theorem dX11_eat_1 : decode cX11_eat 1 = .ok (.getfield 19, 3) := by decide +kernel
theorem dX11_eat_4 : decode cX11_eat 4 = .ok (.iload_n 1, 1) := by decide +kernel
theorem dX11_eat_5 : decode cX11_eat 5 = .ok (.invokevirtual 133, 3) := by decide +kernel
theorem dX11_eat_8 : decode cX11_eat 8 = .ok (.ifCond .eq 25, 3) := by decide +kernel
theorem dX11_eat_33 : decode cX11_eat 33 = .ok (.iconst (-1), 1) := by decide +kernel
theorem dX11_eat_34 : decode cX11_eat 34 = .ok (.ireturn, 1) := by decide +kernel
theorem dX11_eaters_0 : decode cX11_eaters 0 = .ok (.aload_n 0, 1) := by decide +kernel
theorem dX11_eaters_1 : decode cX11_eaters 1 = .ok (.getfield 10, 3) := by decide +kernel
theorem dX11_eaters_4 : decode cX11_eaters 4 = .ok (.getfield 102, 3) := by decide +kernel
theorem dX11_eaters_7 : decode cX11_eaters 7 = .ok (.iconst 2, 1) := by decide +kernel
theorem dX11_eaters_8 : decode cX11_eaters 8 = .ok (.if_icmp .ne 7, 3) := by decide +kernel
theorem dX11_eaters_15 : decode cX11_eaters 15 = .ok (.iconst 0, 1) := by decide +kernel
theorem dX11_eaters_16 : decode cX11_eaters 16 = .ok (.istore_n 1, 1) := by decide +kernel
theorem dX11_eaters_17 : decode cX11_eaters 17 = .ok (.aload_n 0, 1) := by decide +kernel
theorem dX11_eaters_18 : decode cX11_eaters 18 = .ok (.getfield 10, 3) := by decide +kernel
theorem dX11_eaters_21 : decode cX11_eaters 21 = .ok (.iconst 0, 1) := by decide +kernel
theorem dX11_eaters_22 : decode cX11_eaters 22 = .ok (.invokevirtual 275, 3) := by decide +kernel
theorem dX11_eaters_25 : decode cX11_eaters 25 = .ok (.istore_n 2, 1) := by decide +kernel
theorem dX11_eaters_26 : decode cX11_eaters 26 = .ok (.aload_n 0, 1) := by decide +kernel
theorem dX11_eaters_27 : decode cX11_eaters 27 = .ok (.getfield 10, 3) := by decide +kernel
theorem dX11_eaters_30 : decode cX11_eaters 30 = .ok (.iconst 1, 1) := by decide +kernel
theorem dX11_eaters_31 : decode cX11_eaters 31 = .ok (.invokevirtual 275, 3) := by decide +kernel
theorem dX11_eaters_34 : decode cX11_eaters 34 = .ok (.istore_n 3, 1) := by decide +kernel
theorem dX11_eaters_35 : decode cX11_eaters 35 = .ok (.aload_n 0, 1) := by decide +kernel
theorem dX11_eaters_36 : decode cX11_eaters 36 = .ok (.getfield 10, 3) := by decide +kernel
theorem dX11_eaters_39 : decode cX11_eaters 39 = .ok (.iconst 0, 1) := by decide +kernel
theorem dX11_eaters_40 : decode cX11_eaters 40 = .ok (.putfield 102, 3) := by decide +kernel
theorem dX11_eaters_43 : decode cX11_eaters 43 = .ok (.iload_n 1, 1) := by decide +kernel
theorem dX11_eaters_44 : decode cX11_eaters 44 = .ok (.ifCond .eq 30, 3) := by decide +kernel
theorem dX11_eaters_74 : decode cX11_eaters 74 = .ok (.iconst (-1), 1) := by decide +kernel
theorem dX11_eaters_75 : decode cX11_eaters 75 = .ok (.ireturn, 1) := by decide +kernel
theorem dX11_end_0 : decode cX11_end 0 = .ok (.iload_n 1, 1) := by decide +kernel
theorem dX11_end_1 : decode cX11_end 1 = .ok (.ifCond .lt 14, 3) := by decide +kernel
theorem dX11_end_4 : decode cX11_end 4 = .ok (.iload_n 1, 1) := by decide +kernel
theorem dX11_end_5 : decode cX11_end 5 = .ok (.aload_n 0, 1) := by decide +kernel
theorem dX11_end_6 : decode cX11_end 6 = .ok (.getfield 10, 3) := by decide +kernel
theorem dX11_end_9 : decode cX11_end 9 = .ok (.getfield 102, 3) := by decide +kernel
theorem dX11_end_12 : decode cX11_end 12 = .ok (.if_icmp .le 5, 3) := by decide +kernel
theorem dX11_end_15 : decode cX11_end 15 = .ok (.iconst 0, 1) := by decide +kernel
theorem dX11_end_16 : decode cX11_end 16 = .ok (.ireturn, 1) := by decide +kernel
theorem dX11_end_17 : decode cX11_end 17 = .ok (.aload_n 0, 1) := by decide +kernel
theorem dX11_end_18 : decode cX11_end 18 = .ok (.getfield 10, 3) := by decide +kernel
theorem dX11_end_21 : decode cX11_end 21 = .ok (.iload_n 1, 1) := by decide +kernel
theorem dX11_end_22 : decode cX11_end 22 = .ok (.putfield 102, 3) := by decide +kernel
theorem dX11_end_25 : decode cX11_end 25 = .ok (.iconst 1, 1) := by decide +kernel
theorem dX11_end_26 : decode cX11_end 26 = .ok (.ireturn, 1) := by decide +kernel
theorem dX11_fault_0 : decode cX11_fault 0 = .ok (.aload_n 0, 1) := by decide +kernel
theorem dX11_fault_1 : decode cX11_fault 1 = .ok (.getfield 10, 3) := by decide +kernel
theorem dX11_fault_4 : decode cX11_fault 4 = .ok (.getfield 113, 3) := by decide +kernel
theorem dX11_fault_7 : decode cX11_fault 7 = .ok (.ireturn, 1) := by decide +kernel
theorem dX11_feed_0 : decode cX11_feed 0 = .ok (.aload_n 0, 1) := by decide +kernel
theorem dX11_feed_1 : decode cX11_feed 1 = .ok (.getfield 10, 3) := by decide +kernel
theorem dX11_feed_4 : decode cX11_feed 4 = .ok (.getfield 102, 3) := by decide +kernel
theorem dX11_feed_7 : decode cX11_feed 7 = .ok (.sipush 920, 3) := by decide +kernel
theorem dX11_feed_10 : decode cX11_feed 10 = .ok (.if_icmp .le 5, 3) := by decide +kernel
theorem dX11_feed_15 : decode cX11_feed 15 = .ok (.aload_n 0, 1) := by decide +kernel
theorem dX11_feed_16 : decode cX11_feed 16 = .ok (.getfield 10, 3) := by decide +kernel
theorem dX11_feed_19 : decode cX11_feed 19 = .ok (.iload_n 1, 1) := by decide +kernel
theorem dX11_feed_20 : decode cX11_feed 20 = .ok (.invokevirtual 105, 3) := by decide +kernel
theorem dX11_feed_23 : decode cX11_feed 23 = .ok (.aload_n 0, 1) := by decide +kernel
theorem dX11_feed_24 : decode cX11_feed 24 = .ok (.getfield 10, 3) := by decide +kernel
theorem dX11_feed_27 : decode cX11_feed 27 = .ok (.iload_n 2, 1) := by decide +kernel
theorem dX11_feed_28 : decode cX11_feed 28 = .ok (.invokevirtual 105, 3) := by decide +kernel
theorem dX11_feed_31 : decode cX11_feed 31 = .ok (.aload_n 0, 1) := by decide +kernel
theorem dX11_feed_32 : decode cX11_feed 32 = .ok (.getfield 10, 3) := by decide +kernel
theorem dX11_feed_35 : decode cX11_feed 35 = .ok (.iload_n 3, 1) := by decide +kernel
theorem dX11_feed_36 : decode cX11_feed 36 = .ok (.invokevirtual 105, 3) := by decide +kernel
theorem dX11_feed_39 : decode cX11_feed 39 = .ok (.aload_n 0, 1) := by decide +kernel
theorem dX11_feed_40 : decode cX11_feed 40 = .ok (.getfield 10, 3) := by decide +kernel
theorem dX11_feed_43 : decode cX11_feed 43 = .ok (.iload 4, 2) := by decide +kernel
theorem dX11_feed_45 : decode cX11_feed 45 = .ok (.invokevirtual 105, 3) := by decide +kernel
theorem dX11_feed_48 : decode cX11_feed 48 = .ok (.aload_n 0, 1) := by decide +kernel
theorem dX11_feed_49 : decode cX11_feed 49 = .ok (.getfield 10, 3) := by decide +kernel
theorem dX11_feed_52 : decode cX11_feed 52 = .ok (.iload 5, 2) := by decide +kernel
theorem dX11_feed_54 : decode cX11_feed 54 = .ok (.invokevirtual 105, 3) := by decide +kernel
theorem dX11_feed_57 : decode cX11_feed 57 = .ok (.aload_n 0, 1) := by decide +kernel
theorem dX11_feed_58 : decode cX11_feed 58 = .ok (.getfield 10, 3) := by decide +kernel
theorem dX11_feed_61 : decode cX11_feed 61 = .ok (.getfield 102, 3) := by decide +kernel
theorem dX11_feed_64 : decode cX11_feed 64 = .ok (.ireturn, 1) := by decide +kernel
theorem dX11_heir_0 : decode cX11_heir 0 = .ok (.aload_n 0, 1) := by decide +kernel
theorem dX11_heir_1 : decode cX11_heir 1 = .ok (.getfield 19, 3) := by decide +kernel
theorem dX11_heir_4 : decode cX11_heir 4 = .ok (.iload_n 1, 1) := by decide +kernel
theorem dX11_heir_5 : decode cX11_heir 5 = .ok (.invokevirtual 133, 3) := by decide +kernel
theorem dX11_heir_8 : decode cX11_heir 8 = .ok (.ifCond .eq 21, 3) := by decide +kernel
theorem dX11_heir_29 : decode cX11_heir 29 = .ok (.iconst (-1), 1) := by decide +kernel
theorem dX11_heir_30 : decode cX11_heir 30 = .ok (.ireturn, 1) := by decide +kernel
theorem dX11_hungriest_0 : decode cX11_hungriest 0 = .ok (.iconst (-1), 1) := by decide +kernel
theorem dX11_hungriest_1 : decode cX11_hungriest 1 = .ok (.istore_n 1, 1) := by decide +kernel
theorem dX11_hungriest_2 : decode cX11_hungriest 2 = .ok (.iconst 0, 1) := by decide +kernel
theorem dX11_hungriest_3 : decode cX11_hungriest 3 = .ok (.istore_n 2, 1) := by decide +kernel
theorem dX11_hungriest_4 : decode cX11_hungriest 4 = .ok (.iload_n 2, 1) := by decide +kernel
theorem dX11_hungriest_5 : decode cX11_hungriest 5 = .ok (.aload_n 0, 1) := by decide +kernel
theorem dX11_hungriest_6 : decode cX11_hungriest 6 = .ok (.getfield 19, 3) := by decide +kernel
theorem dX11_hungriest_9 : decode cX11_hungriest 9 = .ok (.getfield 213, 3) := by decide +kernel
theorem dX11_hungriest_12 : decode cX11_hungriest 12 = .ok (.if_icmp .ge 48, 3) := by decide +kernel
theorem dX11_hungriest_60 : decode cX11_hungriest 60 = .ok (.iload_n 1, 1) := by decide +kernel
theorem dX11_hungriest_61 : decode cX11_hungriest 61 = .ok (.ireturn, 1) := by decide +kernel
theorem dX11_kin_0 : decode cX11_kin 0 = .ok (.aload_n 0, 1) := by decide +kernel
theorem dX11_kin_1 : decode cX11_kin 1 = .ok (.getfield 19, 3) := by decide +kernel
theorem dX11_kin_4 : decode cX11_kin 4 = .ok (.iload_n 1, 1) := by decide +kernel
theorem dX11_kin_5 : decode cX11_kin 5 = .ok (.invokevirtual 133, 3) := by decide +kernel
theorem dX11_kin_8 : decode cX11_kin 8 = .ok (.ifCond .eq 26, 3) := by decide +kernel
theorem dX11_kin_34 : decode cX11_kin 34 = .ok (.iconst (-1), 1) := by decide +kernel
theorem dX11_kin_35 : decode cX11_kin 35 = .ok (.ireturn, 1) := by decide +kernel
theorem dX11_last_0 : decode cX11_last 0 = .ok (.aload_n 0, 1) := by decide +kernel
theorem dX11_last_1 : decode cX11_last 1 = .ok (.getfield 19, 3) := by decide +kernel
theorem dX11_last_4 : decode cX11_last 4 = .ok (.iload_n 1, 1) := by decide +kernel
theorem dX11_last_5 : decode cX11_last 5 = .ok (.invokevirtual 175, 3) := by decide +kernel
theorem dX11_last_8 : decode cX11_last 8 = .ok (.ifCond .ne 5, 3) := by decide +kernel
theorem dX11_last_11 : decode cX11_last 11 = .ok (.iconst (-1), 1) := by decide +kernel
theorem dX11_last_12 : decode cX11_last 12 = .ok (.ireturn, 1) := by decide +kernel
theorem dX11_left_0 : decode cX11_left 0 = .ok (.aload_n 0, 1) := by decide +kernel
theorem dX11_left_1 : decode cX11_left 1 = .ok (.getfield 19, 3) := by decide +kernel
theorem dX11_left_4 : decode cX11_left 4 = .ok (.iload_n 1, 1) := by decide +kernel
theorem dX11_left_5 : decode cX11_left 5 = .ok (.invokevirtual 133, 3) := by decide +kernel
theorem dX11_left_8 : decode cX11_left 8 = .ok (.ifCond .eq 30, 3) := by decide +kernel
theorem dX11_left_38 : decode cX11_left 38 = .ok (.iconst 0, 1) := by decide +kernel
theorem dX11_left_39 : decode cX11_left 39 = .ok (.istore_n 2, 1) := by decide +kernel
theorem dX11_left_40 : decode cX11_left 40 = .ok (.aload_n 0, 1) := by decide +kernel
theorem dX11_left_41 : decode cX11_left 41 = .ok (.getfield 32, 3) := by decide +kernel
theorem dX11_left_44 : decode cX11_left 44 = .ok (.aload_n 0, 1) := by decide +kernel
theorem dX11_left_45 : decode cX11_left 45 = .ok (.getfield 28, 3) := by decide +kernel
theorem dX11_left_48 : decode cX11_left 48 = .ok (.invokevirtual 126, 3) := by decide +kernel
theorem dX11_left_51 : decode cX11_left 51 = .ok (.iconst 0, 1) := by decide +kernel
theorem dX11_left_52 : decode cX11_left 52 = .ok (.istore_n 3, 1) := by decide +kernel
theorem dX11_left_53 : decode cX11_left 53 = .ok (.iload_n 3, 1) := by decide +kernel
theorem dX11_left_54 : decode cX11_left 54 = .ok (.aload_n 0, 1) := by decide +kernel
theorem dX11_left_55 : decode cX11_left 55 = .ok (.getfield 10, 3) := by decide +kernel
theorem dX11_left_58 : decode cX11_left 58 = .ok (.getfield 102, 3) := by decide +kernel
theorem dX11_left_61 : decode cX11_left 61 = .ok (.if_icmp .ge 47, 3) := by decide +kernel
theorem dX11_left_108 : decode cX11_left 108 = .ok (.aload_n 0, 1) := by decide +kernel
theorem dX11_left_109 : decode cX11_left 109 = .ok (.getfield 10, 3) := by decide +kernel
theorem dX11_left_112 : decode cX11_left 112 = .ok (.iconst 0, 1) := by decide +kernel
theorem dX11_left_113 : decode cX11_left 113 = .ok (.putfield 102, 3) := by decide +kernel
theorem dX11_left_116 : decode cX11_left 116 = .ok (.iload_n 2, 1) := by decide +kernel
theorem dX11_left_117 : decode cX11_left 117 = .ok (.ifCond .eq 15, 3) := by decide +kernel
theorem dX11_left_132 : decode cX11_left 132 = .ok (.iconst (-1), 1) := by decide +kernel
theorem dX11_left_133 : decode cX11_left 133 = .ok (.ireturn, 1) := by decide +kernel
theorem dX11_line_0 : decode cX11_line 0 = .ok (.aload_n 0, 1) := by decide +kernel
theorem dX11_line_1 : decode cX11_line 1 = .ok (.getfield 19, 3) := by decide +kernel
theorem dX11_line_4 : decode cX11_line 4 = .ok (.iload_n 1, 1) := by decide +kernel
theorem dX11_line_5 : decode cX11_line 5 = .ok (.invokevirtual 133, 3) := by decide +kernel
theorem dX11_line_8 : decode cX11_line 8 = .ok (.ifCond .eq 13, 3) := by decide +kernel
theorem dX11_line_21 : decode cX11_line 21 = .ok (.iconst (-1), 1) := by decide +kernel
theorem dX11_line_22 : decode cX11_line 22 = .ok (.ireturn, 1) := by decide +kernel
theorem dX11_now_0 : decode cX11_now 0 = .ok (.iload_n 1, 1) := by decide +kernel
theorem dX11_now_1 : decode cX11_now 1 = .ok (.tableswitch 111 0 7 #[47, 55, 63, 71, 79, 87, 95, 103], 47) := by decide +kernel
theorem dX11_now_48 : decode cX11_now 48 = .ok (.aload_n 0, 1) := by decide +kernel
theorem dX11_now_49 : decode cX11_now 49 = .ok (.getfield 28, 3) := by decide +kernel
theorem dX11_now_52 : decode cX11_now 52 = .ok (.getfield 195, 3) := by decide +kernel
theorem dX11_now_55 : decode cX11_now 55 = .ok (.ireturn, 1) := by decide +kernel
theorem dX11_now_56 : decode cX11_now 56 = .ok (.aload_n 0, 1) := by decide +kernel
theorem dX11_now_57 : decode cX11_now 57 = .ok (.getfield 28, 3) := by decide +kernel
theorem dX11_now_60 : decode cX11_now 60 = .ok (.getfield 151, 3) := by decide +kernel
theorem dX11_now_63 : decode cX11_now 63 = .ok (.ireturn, 1) := by decide +kernel
theorem dX11_now_64 : decode cX11_now 64 = .ok (.aload_n 0, 1) := by decide +kernel
theorem dX11_now_65 : decode cX11_now 65 = .ok (.getfield 28, 3) := by decide +kernel
theorem dX11_now_68 : decode cX11_now 68 = .ok (.getfield 154, 3) := by decide +kernel
theorem dX11_now_71 : decode cX11_now 71 = .ok (.ireturn, 1) := by decide +kernel
theorem dX11_now_72 : decode cX11_now 72 = .ok (.aload_n 0, 1) := by decide +kernel
theorem dX11_now_73 : decode cX11_now 73 = .ok (.getfield 28, 3) := by decide +kernel
theorem dX11_now_76 : decode cX11_now 76 = .ok (.getfield 198, 3) := by decide +kernel
theorem dX11_now_79 : decode cX11_now 79 = .ok (.ireturn, 1) := by decide +kernel
theorem dX11_now_80 : decode cX11_now 80 = .ok (.aload_n 0, 1) := by decide +kernel
theorem dX11_now_81 : decode cX11_now 81 = .ok (.getfield 28, 3) := by decide +kernel
theorem dX11_now_84 : decode cX11_now 84 = .ok (.getfield 201, 3) := by decide +kernel
theorem dX11_now_87 : decode cX11_now 87 = .ok (.ireturn, 1) := by decide +kernel
theorem dX11_now_88 : decode cX11_now 88 = .ok (.aload_n 0, 1) := by decide +kernel
theorem dX11_now_89 : decode cX11_now 89 = .ok (.getfield 28, 3) := by decide +kernel
theorem dX11_now_92 : decode cX11_now 92 = .ok (.invokevirtual 204, 3) := by decide +kernel
theorem dX11_now_95 : decode cX11_now 95 = .ok (.ireturn, 1) := by decide +kernel
theorem dX11_now_96 : decode cX11_now 96 = .ok (.aload_n 0, 1) := by decide +kernel
theorem dX11_now_97 : decode cX11_now 97 = .ok (.getfield 28, 3) := by decide +kernel
theorem dX11_now_100 : decode cX11_now 100 = .ok (.invokevirtual 207, 3) := by decide +kernel
theorem dX11_now_103 : decode cX11_now 103 = .ok (.ireturn, 1) := by decide +kernel
theorem dX11_now_104 : decode cX11_now 104 = .ok (.aload_n 0, 1) := by decide +kernel
theorem dX11_now_105 : decode cX11_now 105 = .ok (.getfield 28, 3) := by decide +kernel
theorem dX11_now_108 : decode cX11_now 108 = .ok (.getfield 210, 3) := by decide +kernel
theorem dX11_now_111 : decode cX11_now 111 = .ok (.ireturn, 1) := by decide +kernel
theorem dX11_now_112 : decode cX11_now 112 = .ok (.iconst (-1), 1) := by decide +kernel
theorem dX11_now_113 : decode cX11_now 113 = .ok (.ireturn, 1) := by decide +kernel
theorem dX11_odds_0 : decode cX11_odds 0 = .ok (.aload_n 0, 1) := by decide +kernel
theorem dX11_odds_1 : decode cX11_odds 1 = .ok (.getfield 19, 3) := by decide +kernel
theorem dX11_odds_4 : decode cX11_odds 4 = .ok (.iload_n 1, 1) := by decide +kernel
theorem dX11_odds_5 : decode cX11_odds 5 = .ok (.invokevirtual 133, 3) := by decide +kernel
theorem dX11_odds_8 : decode cX11_odds 8 = .ok (.ifCond .eq 14, 3) := by decide +kernel
theorem dX11_odds_22 : decode cX11_odds 22 = .ok (.iconst (-1), 1) := by decide +kernel
theorem dX11_odds_23 : decode cX11_odds 23 = .ok (.ireturn, 1) := by decide +kernel
theorem dX11_order_0 : decode cX11_order 0 = .ok (.aload_n 0, 1) := by decide +kernel
theorem dX11_order_1 : decode cX11_order 1 = .ok (.getfield 69, 3) := by decide +kernel
theorem dX11_order_4 : decode cX11_order 4 = .ok (.aload_n 0, 1) := by decide +kernel
theorem dX11_order_5 : decode cX11_order 5 = .ok (.getfield 28, 3) := by decide +kernel
theorem dX11_order_8 : decode cX11_order 8 = .ok (.invokevirtual 266, 3) := by decide +kernel
theorem dX11_order_11 : decode cX11_order 11 = .ok (.ireturn, 1) := by decide +kernel
theorem dX11_orderAt_0 : decode cX11_orderAt 0 = .ok (.iload_n 1, 1) := by decide +kernel
theorem dX11_orderAt_1 : decode cX11_orderAt 1 = .ok (.ifCond .lt 26, 3) := by decide +kernel
theorem dX11_orderAt_4 : decode cX11_orderAt 4 = .ok (.iload_n 1, 1) := by decide +kernel
theorem dX11_orderAt_5 : decode cX11_orderAt 5 = .ok (.aload_n 0, 1) := by decide +kernel
theorem dX11_orderAt_6 : decode cX11_orderAt 6 = .ok (.getfield 69, 3) := by decide +kernel
theorem dX11_orderAt_9 : decode cX11_orderAt 9 = .ok (.getfield 269, 3) := by decide +kernel
theorem dX11_orderAt_12 : decode cX11_orderAt 12 = .ok (.if_icmp .ge 15, 3) := by decide +kernel
theorem dX11_orderAt_27 : decode cX11_orderAt 27 = .ok (.iconst (-1), 1) := by decide +kernel
theorem dX11_orderAt_28 : decode cX11_orderAt 28 = .ok (.ireturn, 1) := by decide +kernel
theorem dX11_plate_0 : decode cX11_plate 0 = .ok (.aload_n 0, 1) := by decide +kernel
theorem dX11_plate_1 : decode cX11_plate 1 = .ok (.getfield 19, 3) := by decide +kernel
theorem dX11_plate_4 : decode cX11_plate 4 = .ok (.iload_n 1, 1) := by decide +kernel
theorem dX11_plate_5 : decode cX11_plate 5 = .ok (.invokevirtual 133, 3) := by decide +kernel
theorem dX11_plate_8 : decode cX11_plate 8 = .ok (.ifCond .eq 14, 3) := by decide +kernel
theorem dX11_plate_22 : decode cX11_plate 22 = .ok (.iconst (-1), 1) := by decide +kernel
theorem dX11_plate_23 : decode cX11_plate 23 = .ok (.ireturn, 1) := by decide +kernel
theorem dX11_refuse_0 : decode cX11_refuse 0 = .ok (.aload_n 0, 1) := by decide +kernel
theorem dX11_refuse_1 : decode cX11_refuse 1 = .ok (.getfield 19, 3) := by decide +kernel
theorem dX11_refuse_4 : decode cX11_refuse 4 = .ok (.iload_n 1, 1) := by decide +kernel
theorem dX11_refuse_5 : decode cX11_refuse 5 = .ok (.invokevirtual 133, 3) := by decide +kernel
theorem dX11_refuse_8 : decode cX11_refuse 8 = .ok (.ifCond .ne 5, 3) := by decide +kernel
theorem dX11_refuse_11 : decode cX11_refuse 11 = .ok (.iconst (-1), 1) := by decide +kernel
theorem dX11_refuse_12 : decode cX11_refuse 12 = .ok (.ireturn, 1) := by decide +kernel
theorem dX11_rise_0 : decode cX11_rise 0 = .ok (.aload_n 0, 1) := by decide +kernel
theorem dX11_rise_1 : decode cX11_rise 1 = .ok (.getfield 19, 3) := by decide +kernel
theorem dX11_rise_4 : decode cX11_rise 4 = .ok (.iload_n 1, 1) := by decide +kernel
theorem dX11_rise_5 : decode cX11_rise 5 = .ok (.invokevirtual 133, 3) := by decide +kernel
theorem dX11_rise_8 : decode cX11_rise 8 = .ok (.ifCond .ne 5, 3) := by decide +kernel
theorem dX11_rise_11 : decode cX11_rise 11 = .ok (.iconst (-1), 1) := by decide +kernel
theorem dX11_rise_12 : decode cX11_rise 12 = .ok (.ireturn, 1) := by decide +kernel
theorem dX11_said_0 : decode cX11_said 0 = .ok (.aload_n 0, 1) := by decide +kernel
theorem dX11_said_1 : decode cX11_said 1 = .ok (.getfield 59, 3) := by decide +kernel
theorem dX11_said_4 : decode cX11_said 4 = .ok (.getfield 368, 3) := by decide +kernel
theorem dX11_said_7 : decode cX11_said 7 = .ok (.ifCond .ne 5, 3) := by decide +kernel
theorem dX11_said_10 : decode cX11_said 10 = .ok (.iconst (-1), 1) := by decide +kernel
theorem dX11_said_11 : decode cX11_said 11 = .ok (.ireturn, 1) := by decide +kernel
theorem dX11_seatAt_0 : decode cX11_seatAt 0 = .ok (.iload_n 1, 1) := by decide +kernel
theorem dX11_seatAt_1 : decode cX11_seatAt 1 = .ok (.ifCond .lt 26, 3) := by decide +kernel
theorem dX11_seatAt_4 : decode cX11_seatAt 4 = .ok (.iload_n 1, 1) := by decide +kernel
theorem dX11_seatAt_5 : decode cX11_seatAt 5 = .ok (.aload_n 0, 1) := by decide +kernel
theorem dX11_seatAt_6 : decode cX11_seatAt 6 = .ok (.getfield 76, 3) := by decide +kernel
theorem dX11_seatAt_9 : decode cX11_seatAt 9 = .ok (.getfield 294, 3) := by decide +kernel
theorem dX11_seatAt_12 : decode cX11_seatAt 12 = .ok (.if_icmp .ge 15, 3) := by decide +kernel
theorem dX11_seatAt_27 : decode cX11_seatAt 27 = .ok (.iconst (-1), 1) := by decide +kernel
theorem dX11_seatAt_28 : decode cX11_seatAt 28 = .ok (.ireturn, 1) := by decide +kernel
theorem dX11_seats_0 : decode cX11_seats 0 = .ok (.aload_n 0, 1) := by decide +kernel
theorem dX11_seats_1 : decode cX11_seats 1 = .ok (.getfield 76, 3) := by decide +kernel
theorem dX11_seats_4 : decode cX11_seats 4 = .ok (.aload_n 0, 1) := by decide +kernel
theorem dX11_seats_5 : decode cX11_seats 5 = .ok (.getfield 28, 3) := by decide +kernel
theorem dX11_seats_8 : decode cX11_seats 8 = .ok (.invokevirtual 291, 3) := by decide +kernel
theorem dX11_seats_11 : decode cX11_seats 11 = .ok (.ireturn, 1) := by decide +kernel
theorem dX11_serve_0 : decode cX11_serve 0 = .ok (.aload_n 0, 1) := by decide +kernel
theorem dX11_serve_1 : decode cX11_serve 1 = .ok (.getfield 19, 3) := by decide +kernel
theorem dX11_serve_4 : decode cX11_serve 4 = .ok (.iload_n 1, 1) := by decide +kernel
theorem dX11_serve_5 : decode cX11_serve 5 = .ok (.invokevirtual 133, 3) := by decide +kernel
theorem dX11_serve_8 : decode cX11_serve 8 = .ok (.ifCond .eq 25, 3) := by decide +kernel
theorem dX11_serve_33 : decode cX11_serve 33 = .ok (.iconst (-1), 1) := by decide +kernel
theorem dX11_serve_34 : decode cX11_serve 34 = .ok (.ireturn, 1) := by decide +kernel
theorem dX11_share_0 : decode cX11_share 0 = .ok (.aload_n 0, 1) := by decide +kernel
theorem dX11_share_1 : decode cX11_share 1 = .ok (.getfield 19, 3) := by decide +kernel
theorem dX11_share_4 : decode cX11_share 4 = .ok (.iload_n 1, 1) := by decide +kernel
theorem dX11_share_5 : decode cX11_share 5 = .ok (.invokevirtual 175, 3) := by decide +kernel
theorem dX11_share_8 : decode cX11_share 8 = .ok (.ifCond .eq 32, 3) := by decide +kernel
theorem dX11_share_40 : decode cX11_share 40 = .ok (.iconst 0, 1) := by decide +kernel
theorem dX11_share_41 : decode cX11_share 41 = .ok (.istore 4, 2) := by decide +kernel
theorem dX11_share_43 : decode cX11_share 43 = .ok (.iload 4, 2) := by decide +kernel
theorem dX11_share_45 : decode cX11_share 45 = .ok (.ifCond .eq 11, 3) := by decide +kernel
theorem dX11_share_56 : decode cX11_share 56 = .ok (.iconst (-1), 1) := by decide +kernel
theorem dX11_share_57 : decode cX11_share 57 = .ok (.ireturn, 1) := by decide +kernel
theorem dX11_surely_0 : decode cX11_surely 0 = .ok (.aload_n 0, 1) := by decide +kernel
theorem dX11_surely_1 : decode cX11_surely 1 = .ok (.getfield 83, 3) := by decide +kernel
theorem dX11_surely_4 : decode cX11_surely 4 = .ok (.getfield 282, 3) := by decide +kernel
theorem dX11_surely_7 : decode cX11_surely 7 = .ok (.ireturn, 1) := by decide +kernel
theorem dX11_table_0 : decode cX11_table 0 = .ok (.aload_n 0, 1) := by decide +kernel
theorem dX11_table_1 : decode cX11_table 1 = .ok (.getfield 45, 3) := by decide +kernel
theorem dX11_table_4 : decode cX11_table 4 = .ok (.aload_n 0, 1) := by decide +kernel
theorem dX11_table_5 : decode cX11_table 5 = .ok (.getfield 10, 3) := by decide +kernel
theorem dX11_table_8 : decode cX11_table 8 = .ok (.invokevirtual 109, 3) := by decide +kernel
theorem dX11_table_11 : decode cX11_table 11 = .ok (.istore_n 1, 1) := by decide +kernel
theorem dX11_table_12 : decode cX11_table 12 = .ok (.aload_n 0, 1) := by decide +kernel
theorem dX11_table_13 : decode cX11_table 13 = .ok (.getfield 10, 3) := by decide +kernel
theorem dX11_table_16 : decode cX11_table 16 = .ok (.iconst 0, 1) := by decide +kernel
theorem dX11_table_17 : decode cX11_table 17 = .ok (.putfield 102, 3) := by decide +kernel
theorem dX11_table_20 : decode cX11_table 20 = .ok (.aload_n 0, 1) := by decide +kernel
theorem dX11_table_21 : decode cX11_table 21 = .ok (.getfield 10, 3) := by decide +kernel
theorem dX11_table_24 : decode cX11_table 24 = .ok (.getfield 113, 3) := by decide +kernel
theorem dX11_table_27 : decode cX11_table 27 = .ok (.ifCond .eq 13, 3) := by decide +kernel
theorem dX11_table_40 : decode cX11_table 40 = .ok (.aload_n 0, 1) := by decide +kernel
theorem dX11_table_41 : decode cX11_table 41 = .ok (.getfield 19, 3) := by decide +kernel
theorem dX11_table_44 : decode cX11_table 44 = .ok (.aload_n 0, 1) := by decide +kernel
theorem dX11_table_45 : decode cX11_table 45 = .ok (.getfield 45, 3) := by decide +kernel
theorem dX11_table_48 : decode cX11_table 48 = .ok (.getfield 119, 3) := by decide +kernel
theorem dX11_table_51 : decode cX11_table 51 = .ok (.invokevirtual 120, 3) := by decide +kernel
theorem dX11_table_54 : decode cX11_table 54 = .ok (.aload_n 0, 1) := by decide +kernel
theorem dX11_table_55 : decode cX11_table 55 = .ok (.getfield 28, 3) := by decide +kernel
theorem dX11_table_58 : decode cX11_table 58 = .ok (.aload_n 0, 1) := by decide +kernel
theorem dX11_table_59 : decode cX11_table 59 = .ok (.getfield 45, 3) := by decide +kernel
theorem dX11_table_62 : decode cX11_table 62 = .ok (.getfield 123, 3) := by decide +kernel
theorem dX11_table_65 : decode cX11_table 65 = .ok (.invokevirtual 126, 3) := by decide +kernel
theorem dX11_table_68 : decode cX11_table 68 = .ok (.aload_n 0, 1) := by decide +kernel
theorem dX11_table_69 : decode cX11_table 69 = .ok (.getfield 59, 3) := by decide +kernel
theorem dX11_table_72 : decode cX11_table 72 = .ok (.invokevirtual 129, 3) := by decide +kernel
theorem dX11_table_75 : decode cX11_table 75 = .ok (.aload_n 0, 1) := by decide +kernel
theorem dX11_table_76 : decode cX11_table 76 = .ok (.getfield 38, 3) := by decide +kernel
theorem dX11_table_79 : decode cX11_table 79 = .ok (.invokevirtual 132, 3) := by decide +kernel
theorem dX11_table_82 : decode cX11_table 82 = .ok (.iload_n 1, 1) := by decide +kernel
theorem dX11_table_83 : decode cX11_table 83 = .ok (.ireturn, 1) := by decide +kernel
theorem dX11_told_0 : decode cX11_told 0 = .ok (.aload_n 0, 1) := by decide +kernel
theorem dX11_told_1 : decode cX11_told 1 = .ok (.getfield 52, 3) := by decide +kernel
theorem dX11_told_4 : decode cX11_told 4 = .ok (.getfield 352, 3) := by decide +kernel
theorem dX11_told_7 : decode cX11_told 7 = .ok (.ifCond .ne 5, 3) := by decide +kernel
theorem dX11_told_10 : decode cX11_told 10 = .ok (.iconst (-1), 1) := by decide +kernel
theorem dX11_told_11 : decode cX11_told 11 = .ok (.ireturn, 1) := by decide +kernel
theorem dX11_undo_0 : decode cX11_undo 0 = .ok (.aload_n 0, 1) := by decide +kernel
theorem dX11_undo_1 : decode cX11_undo 1 = .ok (.getfield 38, 3) := by decide +kernel
theorem dX11_undo_4 : decode cX11_undo 4 = .ok (.aload_n 0, 1) := by decide +kernel
theorem dX11_undo_5 : decode cX11_undo 5 = .ok (.getfield 28, 3) := by decide +kernel
theorem dX11_undo_8 : decode cX11_undo 8 = .ok (.invokevirtual 256, 3) := by decide +kernel
theorem dX11_undo_11 : decode cX11_undo 11 = .ok (.ireturn, 1) := by decide +kernel
theorem dX11_will_0 : decode cX11_will 0 = .ok (.aload_n 0, 1) := by decide +kernel
theorem dX11_will_1 : decode cX11_will 1 = .ok (.getfield 19, 3) := by decide +kernel
theorem dX11_will_4 : decode cX11_will 4 = .ok (.iload_n 1, 1) := by decide +kernel
theorem dX11_will_5 : decode cX11_will 5 = .ok (.invokevirtual 133, 3) := by decide +kernel
theorem dX11_will_8 : decode cX11_will 8 = .ok (.ifCond .ne 5, 3) := by decide +kernel
theorem dX11_will_11 : decode cX11_will 11 = .ok (.iconst (-1), 1) := by decide +kernel
theorem dX11_will_12 : decode cX11_will 12 = .ok (.ireturn, 1) := by decide +kernel
def fv_ (kd j : Nat) : Int32 := if kd = 10 ∧ j = 8 then 102 else if kd = 2 ∧ (j = 1 ∨ j = 2) then -1 else if kd = 12 ∧ (j = 32 ∨ j = 33) then -1 else 0
/-- all ints of the pool are as a new object has them -/
def Fz_ (L : List Nat) (κ : Nat → Nat) (I : Nat → Nat → Int32) : Prop := ∀ a ∈ L, ∀ j, I a j = fv_ (κ a) j
theorem fz_Z {L : List Nat} {κ : Nat → Nat} {I : Nat → Nat → Int32} (h : Fz_ L κ I) (kd : Nat) (h1 : kd ≠ 10) (h2 : kd ≠ 2) (h3 : kd ≠ 12) : Zk L κ kd I := fun b hb hk j => by rw [h b hb j, hk]; simp [fv_, h1, h2, h3]
theorem z_hp {x : Int32} : (if 0 ≤ x ∧ x < 0 then (1 : Int32) else 0) = 0 := if_neg (fun q => Int32.lt_irrefl (Int32.lt_of_le_of_lt q.1 q.2))
theorem sw_lt {x : Int32} (h : x < 0) : x.toInt < 0 := Int32.lt_iff_toInt_lt.mp h
theorem sw_ge {x : Int32} {n : Nat} (h : nI n ≤ x) (hn : n < 2147483648) {k : Int} (hk : k < (n : Int) := by decide) : k < x.toInt := by
  have h1 := Int32.le_iff_toInt_le.mp h
  rw [nI_toInt hn] at h1
  omega
theorem mk_N {n : Int32} (h1 : ¬ n < 1) (h2 : ¬ 60 < n) : ∃ N : Nat, (1 ≤ N ∧ N ≤ 60) ∧ nI N = n := by
  have a1 := Int32.le_iff_toInt_le.mp (Int32.not_lt.mp h1)
  have a2 := Int32.le_iff_toInt_le.mp (Int32.not_lt.mp h2)
  have e1 : (1 : Int32).toInt = 1 := rfl
  have e2 : (60 : Int32).toInt = 60 := rfl
  refine ⟨n.toInt.toNat, by omega, ?_⟩
  apply Int32.toInt_inj.mp
  rw [nI_toInt (by omega)]
  omega
theorem mk_i {k : Int32} (h1 : ¬ k < 0) (h2 : ¬ 2 ≤ k) : ∃ i : Nat, i < 2 ∧ nI i = k := by
  have a1 := Int32.le_iff_toInt_le.mp (Int32.not_lt.mp h1)
  have a2 := Int32.lt_iff_toInt_lt.mp (Int32.not_le.mp h2)
  have e1 : (0 : Int32).toInt = 0 := rfl
  have e2 : (2 : Int32).toInt = 2 := rfl
  refine ⟨k.toInt.toNat, by omega, ?_⟩
  apply Int32.toInt_inj.mp
  rw [nI_toInt (by omega)]
  omega
theorem p_lo {x a b c d : Int32} (h : x < a) : d = (if a ≤ x ∧ x ≤ b then c else d) := by rw [if_neg (fun q => Int32.lt_irrefl (Int32.lt_of_lt_of_le h q.1))]
theorem p_hi {x a b c d : Int32} (h : b < x) : d = (if a ≤ x ∧ x ≤ b then c else d) := by rw [if_neg (fun q => Int32.lt_irrefl (Int32.lt_of_lt_of_le h q.2))]
theorem p_hi' {x a b e c d : Int32} (h : e ≤ x) (he : b < e) : d = (if a ≤ x ∧ x ≤ b then c else d) := p_hi (Int32.lt_of_lt_of_le he h)
theorem p_in {x a b c d : Int32} (h : a ≤ x ∧ x ≤ b) : c = (if a ≤ x ∧ x ≤ b then c else d) := by rw [if_pos h]
set_option maxRecDepth 100000 in
set_option maxHeartbeats 4000000 in
theorem t_feed {l : Launch} {D : va_G} {cy : Nat → ClassId} {L : List Nat} {κ ln : Nat → Nat} {R : Nat → Nat → Option Nat} {I : Nat → Nat → Int32} {J : Nat → Nat → Int64} {ow : Nat → Nat × Nat} (W9 : ∀ a ∈ L, Shp L κ ln R ow a) {x : Nat} (hLx : x ∈ L) (hkx : κ x = 11) (FZ : Fz_ L κ I) (a : Int32) (b : Int32) (c1 : Int32) (d : Int32) (e1 : Int32) : CtI l yX11_feed cX11_feed 6 (some .int) { frames := 5, cells := 0, slots := 0, locals := 320 } D cy L κ ln R I J [.ref x, .int a, .int b, .int c1, .int d, .int e1] (fun r _ _ => r = 20) := by
  refine CtI.of (by decide +kernel) (Nat.le_of_ble_eq_true rfl) ?_
  intro p e s m below meth c B K
  have C := B.1
  have Z1 := fz_Z FZ 1 (by decide) (by decide) (by decide)
  have Z8 := fz_Z FZ 8 (by decide) (by decide) (by decide)
  refine g_lo (is := [0, 1, 2, 3, 4, 5]) (lo2 := [(0, .ref x), (1, .int a), (2, .int b), (3, .int c1), (4, .int d), (5, .int e1)]) rfl ?_
  refine g_aload_n C 0 dX11_feed_0 rfl rfl ?_
  obtain ⟨b_434, hb_434, hb_434L, hb_434k⟩ := shp_o (W9 x hLx) hkx 0 10 rfl (by decide)
  refine g_getR C K hLx hkx f_11_10 hb_434 dX11_feed_1 ?_
  refine g_getI C K hb_434L hb_434k f_11_102 (v := 0) ((by rw [FZ b_434 hb_434L 5, hb_434k]; rfl)) dX11_feed_4 ?_
  refine g_sipush C (v := 920) dX11_feed_7 (by decide) ?_
  refine t_icmp_le C (tgt := 15) (by decide) dX11_feed_10 (by decide) ?_
  refine g_aload_n C 0 dX11_feed_15 rfl rfl ?_
  refine g_getR C K hLx hkx f_11_10 hb_434 dX11_feed_16 ?_
  refine g_iload_n C 1 dX11_feed_19 rfl rfl ?_
  refine g_callVV C K (c_Tape_add W9 hb_434L hb_434k (0) (by omega) ((by rw [FZ b_434 hb_434L 5, hb_434k]; rfl)) a) hb_434L hb_434k (by decide) rfl v_11_105 rfl ⟨rfl, rfl⟩ ⟨Nat.le_of_ble_eq_true rfl, Nat.le_of_ble_eq_true rfl⟩ (Nat.le_of_ble_eq_true rfl) ⟨Nat.le_of_ble_eq_true rfl, Nat.le_of_ble_eq_true rfl⟩ dX11_feed_20 rfl (st := []) (fun I_435 J_436 h_437 => ?_)
  obtain ⟨rfl, v_439⟩ := h_437
  refine g_aload_n C 0 dX11_feed_23 rfl rfl ?_
  refine g_getR C K hLx hkx f_11_10 hb_434 dX11_feed_24 ?_
  refine g_iload_n C 2 dX11_feed_27 rfl rfl ?_
  refine g_callVV C K (c_Tape_add W9 hb_434L hb_434k (0 + 4) (by omega) (v_439) b) hb_434L hb_434k (by decide) rfl v_11_105 rfl ⟨rfl, rfl⟩ ⟨Nat.le_of_ble_eq_true rfl, Nat.le_of_ble_eq_true rfl⟩ (Nat.le_of_ble_eq_true rfl) ⟨Nat.le_of_ble_eq_true rfl, Nat.le_of_ble_eq_true rfl⟩ dX11_feed_28 rfl (st := []) (fun I_440 J_441 h_442 => ?_)
  obtain ⟨rfl, v_444⟩ := h_442
  refine g_aload_n C 0 dX11_feed_31 rfl rfl ?_
  refine g_getR C K hLx hkx f_11_10 hb_434 dX11_feed_32 ?_
  refine g_iload_n C 3 dX11_feed_35 rfl rfl ?_
  refine g_callVV C K (c_Tape_add W9 hb_434L hb_434k (0 + 4 + 4) (by omega) (v_444) c1) hb_434L hb_434k (by decide) rfl v_11_105 rfl ⟨rfl, rfl⟩ ⟨Nat.le_of_ble_eq_true rfl, Nat.le_of_ble_eq_true rfl⟩ (Nat.le_of_ble_eq_true rfl) ⟨Nat.le_of_ble_eq_true rfl, Nat.le_of_ble_eq_true rfl⟩ dX11_feed_36 rfl (st := []) (fun I_445 J_446 h_447 => ?_)
  obtain ⟨rfl, v_449⟩ := h_447
  refine g_aload_n C 0 dX11_feed_39 rfl rfl ?_
  refine g_getR C K hLx hkx f_11_10 hb_434 dX11_feed_40 ?_
  refine g_iload C 4 dX11_feed_43 rfl ?_
  refine g_callVV C K (c_Tape_add W9 hb_434L hb_434k (0 + 4 + 4 + 4) (by omega) (v_449) d) hb_434L hb_434k (by decide) rfl v_11_105 rfl ⟨rfl, rfl⟩ ⟨Nat.le_of_ble_eq_true rfl, Nat.le_of_ble_eq_true rfl⟩ (Nat.le_of_ble_eq_true rfl) ⟨Nat.le_of_ble_eq_true rfl, Nat.le_of_ble_eq_true rfl⟩ dX11_feed_45 rfl (st := []) (fun I_450 J_451 h_452 => ?_)
  obtain ⟨rfl, v_454⟩ := h_452
  refine g_aload_n C 0 dX11_feed_48 rfl rfl ?_
  refine g_getR C K hLx hkx f_11_10 hb_434 dX11_feed_49 ?_
  refine g_iload C 5 dX11_feed_52 rfl ?_
  refine g_callVV C K (c_Tape_add W9 hb_434L hb_434k (0 + 4 + 4 + 4 + 4) (by omega) (v_454) e1) hb_434L hb_434k (by decide) rfl v_11_105 rfl ⟨rfl, rfl⟩ ⟨Nat.le_of_ble_eq_true rfl, Nat.le_of_ble_eq_true rfl⟩ (Nat.le_of_ble_eq_true rfl) ⟨Nat.le_of_ble_eq_true rfl, Nat.le_of_ble_eq_true rfl⟩ dX11_feed_54 rfl (st := []) (fun I_455 J_456 h_457 => ?_)
  obtain ⟨rfl, v_459⟩ := h_457
  refine g_aload_n C 0 dX11_feed_57 rfl rfl ?_
  refine g_getR C K hLx hkx f_11_10 hb_434 dX11_feed_58 ?_
  refine g_getI C K hb_434L hb_434k f_11_102 (v := nI (0 + 4 + 4 + 4 + 4 + 4)) (v_459) dX11_feed_61 ?_
  exact g_zret (ty := .int) (r := nI (0 + 4 + 4 + 4 + 4 + 4)) B K rfl rfl (rfl) dX11_feed_64
set_option maxRecDepth 100000 in
set_option maxHeartbeats 4000000 in
theorem t_end {l : Launch} {D : va_G} {cy : Nat → ClassId} {L : List Nat} {κ ln : Nat → Nat} {R : Nat → Nat → Option Nat} {I : Nat → Nat → Int32} {J : Nat → Nat → Int64} {ow : Nat → Nat × Nat} (W9 : ∀ a ∈ L, Shp L κ ln R ow a) {x : Nat} (hLx : x ∈ L) (hkx : κ x = 11) (FZ : Fz_ L κ I) (n : Int32) : CtI l yX11_end cX11_end 2 (some .boolean) { frames := 5, cells := 0, slots := 0, locals := 320 } D cy L κ ln R I J [.ref x, .int n] (fun r _ _ => r = if 0 ≤ n ∧ n ≤ 0 then 1 else 0) := by
  refine CtI.of (by decide +kernel) (Nat.le_of_ble_eq_true rfl) ?_
  intro p e s m below meth c B K
  have C := B.1
  have Z1 := fz_Z FZ 1 (by decide) (by decide) (by decide)
  have Z8 := fz_Z FZ 8 (by decide) (by decide) (by decide)
  refine g_lo (is := [0, 1]) (lo2 := [(0, .ref x), (1, .int n)]) rfl ?_
  refine g_iload_n C 1 dX11_end_0 rfl rfl ?_
  refine g_if_lt C (tgt := 15) dX11_end_1 (by decide) (fun h_460 => ?_) (fun h_460 => ?_)
  · skip
    refine g_iconst C (v := 0) dX11_end_15 (by decide) ?_
    exact g_zret (ty := .boolean) (r := 0) B K rfl (by decide) (by first | exact p_in ⟨i32_lt_le (by assumption), by assumption⟩ | exact p_hi (Int32.not_le.mp (by assumption)) | exact p_lo (by assumption)) dX11_end_16
  · skip
    refine g_iload_n C 1 dX11_end_4 rfl rfl ?_
    refine g_aload_n C 0 dX11_end_5 rfl rfl ?_
    obtain ⟨b_461, hb_461, hb_461L, hb_461k⟩ := shp_o (W9 x hLx) hkx 0 10 rfl (by decide)
    refine g_getR C K hLx hkx f_11_10 hb_461 dX11_end_6 ?_
    refine g_getI C K hb_461L hb_461k f_11_102 (v := 0) ((by rw [FZ b_461 hb_461L 5, hb_461k]; rfl)) dX11_end_9 ?_
    refine g_icmp_le C (tgt := 17) dX11_end_12 (by decide) (fun h_462 => ?_) (fun h_462 => ?_)
    · skip
      refine g_aload_n C 0 dX11_end_17 rfl rfl ?_
      refine g_getR C K hLx hkx f_11_10 hb_461 dX11_end_18 ?_
      refine g_iload_n C 1 dX11_end_21 rfl rfl ?_
      refine h_putI C K hb_461L hb_461k f_11_102 p_10_5 dX11_end_22 (fun I_463 hI_463 => ?_)
      refine g_iconst C (v := 1) dX11_end_25 (by decide) ?_
      exact g_zret (ty := .boolean) (r := 1) B K rfl (by decide) (by first | exact p_in ⟨i32_lt_le (by assumption), by assumption⟩ | exact p_hi (Int32.not_le.mp (by assumption)) | exact p_lo (by assumption)) dX11_end_26
    · skip
      refine g_iconst C (v := 0) dX11_end_15 (by decide) ?_
      exact g_zret (ty := .boolean) (r := 0) B K rfl (by decide) (by first | exact p_in ⟨i32_lt_le (by assumption), by assumption⟩ | exact p_hi (Int32.not_le.mp (by assumption)) | exact p_lo (by assumption)) dX11_end_16
set_option maxRecDepth 100000 in
set_option maxHeartbeats 4000000 in
theorem t_table {l : Launch} {D : va_G} {cy : Nat → ClassId} {L : List Nat} {κ ln : Nat → Nat} {R : Nat → Nat → Option Nat} {I : Nat → Nat → Int32} {J : Nat → Nat → Int64} {ow : Nat → Nat × Nat} (W9 : ∀ a ∈ L, Shp L κ ln R ow a) {x : Nat} (hLx : x ∈ L) (hkx : κ x = 11) (FZ : Fz_ L κ I) : CtI l yX11_table cX11_table 2 (some .int) { frames := 5, cells := 0, slots := 0, locals := 320 } D cy L κ ln R I J [.ref x] (fun r _ _ => r = 0) := by
  refine CtI.of (by decide +kernel) (Nat.le_of_ble_eq_true rfl) ?_
  intro p e s m below meth c B K
  have C := B.1
  have Z1 := fz_Z FZ 1 (by decide) (by decide) (by decide)
  have Z8 := fz_Z FZ 8 (by decide) (by decide) (by decide)
  refine g_lo (is := [0]) (lo2 := [(0, .ref x)]) rfl ?_
  refine g_aload_n C 0 dX11_table_0 rfl rfl ?_
  obtain ⟨b_464, hb_464, hb_464L, hb_464k⟩ := shp_o (W9 x hLx) hkx 5 9 rfl (by decide)
  refine g_getR C K hLx hkx f_11_45 hb_464 dX11_table_1 ?_
  refine g_aload_n C 0 dX11_table_4 rfl rfl ?_
  obtain ⟨b_465, hb_465, hb_465L, hb_465k⟩ := shp_o (W9 x hLx) hkx 0 10 rfl (by decide)
  refine g_getR C K hLx hkx f_11_10 hb_465 dX11_table_5 ?_
  refine g_callVI C K (c_TR_readFrom0 W9 hb_464L hb_464k hb_465L hb_465k (Z1) (Z8) ((by rw [FZ b_465 hb_465L 5, hb_465k]; rfl))) hb_464L hb_464k (by decide) rfl v_11_109 rfl ⟨rfl, rfl⟩ ⟨Nat.le_of_ble_eq_true rfl, Nat.le_of_ble_eq_true rfl⟩ (Nat.le_of_ble_eq_true rfl) ⟨Nat.le_of_ble_eq_true rfl, Nat.le_of_ble_eq_true rfl⟩ dX11_table_8 rfl (st := []) (fun r_469 I_466 J_467 h_468 => ?_)
  obtain ⟨g_471, f_470, z_472, z_473, v_474, rfl⟩ := h_468
  refine g_istore_n C dX11_table_11 rfl (by decide) (lo2 := [(1, .int 0), (0, .ref x)]) rfl ?_
  refine g_aload_n C 1 dX11_table_12 rfl rfl ?_
  refine g_getR C K hLx hkx f_11_10 hb_465 dX11_table_13 ?_
  refine g_iconst C (v := 0) dX11_table_16 (by decide) ?_
  refine h_putI C K hb_465L hb_465k f_11_102 p_10_5 dX11_table_17 (fun I_475 hI_475 => ?_)
  refine g_aload_n C 1 dX11_table_20 rfl rfl ?_
  refine g_getR C K hLx hkx f_11_10 hb_465 dX11_table_21 ?_
  refine g_getI C K hb_465L hb_465k f_11_113 (v := 0) (by rw [hI_475, u2_j (by decide)]; exact v_474) dX11_table_24 ?_
  refine t_if_eq C (tgt := 40) (by decide) dX11_table_27 (by decide) ?_
  refine g_aload_n C 1 dX11_table_40 rfl rfl ?_
  obtain ⟨b_476, hb_476, hb_476L, hb_476k⟩ := shp_o (W9 x hLx) hkx 1 8 rfl (by decide)
  refine g_getR C K hLx hkx f_11_19 hb_476 dX11_table_41 ?_
  refine g_aload_n C 1 dX11_table_44 rfl rfl ?_
  refine g_getR C K hLx hkx f_11_45 hb_464 dX11_table_45 ?_
  obtain ⟨b_477, hb_477, hb_477L, hb_477k⟩ := shp_o (W9 b_464 hb_464L) hb_464k 0 8 rfl (by decide)
  refine g_getR C K hb_464L hb_464k f_11_119 hb_477 dX11_table_48 ?_
  refine g_callVV C K (c_Table_become W9 hb_476L hb_476k hb_477L hb_477k ((z_473).u2 hI_475 rfl)) hb_476L hb_476k (by decide) rfl v_11_120 rfl ⟨rfl, rfl⟩ ⟨Nat.le_of_ble_eq_true rfl, Nat.le_of_ble_eq_true rfl⟩ (Nat.le_of_ble_eq_true rfl) ⟨Nat.le_of_ble_eq_true rfl, Nat.le_of_ble_eq_true rfl⟩ dX11_table_51 rfl (st := []) (fun I_478 J_479 h_480 => ?_)
  obtain ⟨g_483, f_482, z_484⟩ := h_480
  refine g_aload_n C 1 dX11_table_54 rfl rfl ?_
  obtain ⟨b_485, hb_485, hb_485L, hb_485k⟩ := shp_o (W9 x hLx) hkx 2 1 rfl (by decide)
  refine g_getR C K hLx hkx f_11_28 hb_485 dX11_table_55 ?_
  refine g_aload_n C 1 dX11_table_58 rfl rfl ?_
  refine g_getR C K hLx hkx f_11_45 hb_464 dX11_table_59 ?_
  obtain ⟨b_486, hb_486, hb_486L, hb_486k⟩ := shp_o (W9 b_464 hb_464L) hb_464k 1 1 rfl (by decide)
  refine g_getR C K hb_464L hb_464k f_11_123 hb_486 dX11_table_62 ?_
  refine g_callVV C K (c_Course_become W9 hb_485L hb_485k hb_486L hb_486k (((z_472).u2 hI_475 rfl).fk f_482 (by decide))) hb_485L hb_485k (by decide) rfl v_11_126 rfl ⟨rfl, rfl⟩ ⟨Nat.le_of_ble_eq_true rfl, Nat.le_of_ble_eq_true rfl⟩ (Nat.le_of_ble_eq_true rfl) ⟨Nat.le_of_ble_eq_true rfl, Nat.le_of_ble_eq_true rfl⟩ dX11_table_65 rfl (st := []) (fun I_487 J_488 h_489 => ?_)
  obtain ⟨rfl, f_491, z_493⟩ := h_489
  refine g_aload_n C 1 dX11_table_68 rfl rfl ?_
  obtain ⟨b_494, hb_494, hb_494L, hb_494k⟩ := shp_o (W9 x hLx) hkx 7 7 rfl (by decide)
  refine g_getR C K hLx hkx f_11_59 hb_494 dX11_table_69 ?_
  refine g_callVV C K (c_Sen_forget hb_494L hb_494k) hb_494L hb_494k (by decide) rfl v_11_129 rfl ⟨rfl, rfl⟩ ⟨Nat.le_of_ble_eq_true rfl, Nat.le_of_ble_eq_true rfl⟩ (Nat.le_of_ble_eq_true rfl) ⟨Nat.le_of_ble_eq_true rfl, Nat.le_of_ble_eq_true rfl⟩ dX11_table_72 rfl (st := []) (fun I_495 J_496 h_497 => ?_)
  obtain ⟨rfl, f_499⟩ := h_497
  refine g_aload_n C 1 dX11_table_75 rfl rfl ?_
  obtain ⟨b_501, hb_501, hb_501L, hb_501k⟩ := shp_o (W9 x hLx) hkx 4 5 rfl (by decide)
  refine g_getR C K hLx hkx f_11_38 hb_501 dX11_table_76 ?_
  refine g_callVV C K (c_Past_forget hb_501L hb_501k) hb_501L hb_501k (by decide) rfl v_11_132 rfl ⟨rfl, rfl⟩ ⟨Nat.le_of_ble_eq_true rfl, Nat.le_of_ble_eq_true rfl⟩ (Nat.le_of_ble_eq_true rfl) ⟨Nat.le_of_ble_eq_true rfl, Nat.le_of_ble_eq_true rfl⟩ dX11_table_79 rfl (st := []) (fun I_502 J_503 h_504 => ?_)
  obtain ⟨rfl, f_506⟩ := h_504
  refine g_iload_n C 0 dX11_table_82 rfl rfl ?_
  exact g_zret (ty := .int) (r := 0) B K rfl rfl (rfl) dX11_table_83
set_option maxRecDepth 100000 in
set_option maxHeartbeats 4000000 in
theorem t_fault {l : Launch} {D : va_G} {cy : Nat → ClassId} {L : List Nat} {κ ln : Nat → Nat} {R : Nat → Nat → Option Nat} {I : Nat → Nat → Int32} {J : Nat → Nat → Int64} {ow : Nat → Nat × Nat} (W9 : ∀ a ∈ L, Shp L κ ln R ow a) {x : Nat} (hLx : x ∈ L) (hkx : κ x = 11) (FZ : Fz_ L κ I) : CtI l yX11_fault cX11_fault 1 (some .int) { frames := 5, cells := 0, slots := 0, locals := 320 } D cy L κ ln R I J [.ref x] (fun r _ _ => r = 0) := by
  refine CtI.of (by decide +kernel) (Nat.le_of_ble_eq_true rfl) ?_
  intro p e s m below meth c B K
  have C := B.1
  have Z1 := fz_Z FZ 1 (by decide) (by decide) (by decide)
  have Z8 := fz_Z FZ 8 (by decide) (by decide) (by decide)
  refine g_lo (is := [0]) (lo2 := [(0, .ref x)]) rfl ?_
  refine g_aload_n C 0 dX11_fault_0 rfl rfl ?_
  obtain ⟨b_508, hb_508, hb_508L, hb_508k⟩ := shp_o (W9 x hLx) hkx 0 10 rfl (by decide)
  refine g_getR C K hLx hkx f_11_10 hb_508 dX11_fault_1 ?_
  refine g_getI C K hb_508L hb_508k f_11_113 (v := 0) ((by rw [FZ b_508 hb_508L 11, hb_508k]; rfl)) dX11_fault_4 ?_
  exact g_zret (ty := .int) (r := 0) B K rfl rfl (rfl) dX11_fault_7
set_option maxRecDepth 100000 in
set_option maxHeartbeats 4000000 in
theorem t_plate {l : Launch} {D : va_G} {cy : Nat → ClassId} {L : List Nat} {κ ln : Nat → Nat} {R : Nat → Nat → Option Nat} {I : Nat → Nat → Int32} {J : Nat → Nat → Int64} {ow : Nat → Nat × Nat} (W9 : ∀ a ∈ L, Shp L κ ln R ow a) {x : Nat} (hLx : x ∈ L) (hkx : κ x = 11) (FZ : Fz_ L κ I) (p1 : Int32) (d : Int32) : CtI l yX11_plate cX11_plate 3 (some .int) { frames := 5, cells := 0, slots := 0, locals := 320 } D cy L κ ln R I J [.ref x, .int p1, .int d] (fun r _ _ => r = -1) := by
  refine CtI.of (by decide +kernel) (Nat.le_of_ble_eq_true rfl) ?_
  intro p e s m below meth c B K
  have C := B.1
  have Z1 := fz_Z FZ 1 (by decide) (by decide) (by decide)
  have Z8 := fz_Z FZ 8 (by decide) (by decide) (by decide)
  refine g_lo (is := [0, 1, 2]) (lo2 := [(0, .ref x), (1, .int p1), (2, .int d)]) rfl ?_
  refine g_aload_n C 0 dX11_plate_0 rfl rfl ?_
  obtain ⟨b_509, hb_509, hb_509L, hb_509k⟩ := shp_o (W9 x hLx) hkx 1 8 rfl (by decide)
  refine g_getR C K hLx hkx f_11_19 hb_509 dX11_plate_1 ?_
  refine g_iload_n C 1 dX11_plate_4 rfl rfl ?_
  refine g_callVI C K (c_Table_hasPerson hb_509L hb_509k p1 0 ((by rw [FZ b_509 hb_509L 5, hb_509k]; rfl))) hb_509L hb_509k (by decide) rfl v_11_133 rfl ⟨rfl, rfl⟩ ⟨Nat.le_of_ble_eq_true rfl, Nat.le_of_ble_eq_true rfl⟩ (Nat.le_of_ble_eq_true rfl) ⟨Nat.le_of_ble_eq_true rfl, Nat.le_of_ble_eq_true rfl⟩ dX11_plate_5 rfl (st := []) (fun r_513 I_510 J_511 h_512 => ?_)
  obtain ⟨rfl, rfl, er_513⟩ := h_512
  have h0r_513 := er_513
  rw [z_hp] at er_513
  subst er_513
  refine t_if_eq C (tgt := 22) (by decide) dX11_plate_8 (by decide) ?_
  refine g_iconst C (v := (-1)) dX11_plate_22 (by decide) ?_
  exact g_zret (ty := .int) (r := (-1)) B K rfl rfl (rfl) dX11_plate_23
set_option maxRecDepth 100000 in
set_option maxHeartbeats 4000000 in
theorem t_dish {l : Launch} {D : va_G} {cy : Nat → ClassId} {L : List Nat} {κ ln : Nat → Nat} {R : Nat → Nat → Option Nat} {I : Nat → Nat → Int32} {J : Nat → Nat → Int64} {ow : Nat → Nat × Nat} (W9 : ∀ a ∈ L, Shp L κ ln R ow a) {x : Nat} (hLx : x ∈ L) (hkx : κ x = 11) (FZ : Fz_ L κ I) (d : Int32) (w : Int32) : CtI l yX11_dish cX11_dish 3 (some .int) { frames := 5, cells := 0, slots := 0, locals := 320 } D cy L κ ln R I J [.ref x, .int d, .int w] (fun r _ _ => r = -1) := by
  refine CtI.of (by decide +kernel) (Nat.le_of_ble_eq_true rfl) ?_
  intro p e s m below meth c B K
  have C := B.1
  have Z1 := fz_Z FZ 1 (by decide) (by decide) (by decide)
  have Z8 := fz_Z FZ 8 (by decide) (by decide) (by decide)
  refine g_lo (is := [0, 1, 2]) (lo2 := [(0, .ref x), (1, .int d), (2, .int w)]) rfl ?_
  refine g_aload_n C 0 dX11_dish_0 rfl rfl ?_
  obtain ⟨b_514, hb_514, hb_514L, hb_514k⟩ := shp_o (W9 x hLx) hkx 1 8 rfl (by decide)
  refine g_getR C K hLx hkx f_11_19 hb_514 dX11_dish_1 ?_
  refine g_iload_n C 1 dX11_dish_4 rfl rfl ?_
  refine g_callVI C K (c_Table_hasDish hb_514L hb_514k d 0 ((by rw [FZ b_514 hb_514L 6, hb_514k]; rfl))) hb_514L hb_514k (by decide) rfl v_11_175 rfl ⟨rfl, rfl⟩ ⟨Nat.le_of_ble_eq_true rfl, Nat.le_of_ble_eq_true rfl⟩ (Nat.le_of_ble_eq_true rfl) ⟨Nat.le_of_ble_eq_true rfl, Nat.le_of_ble_eq_true rfl⟩ dX11_dish_5 rfl (st := []) (fun r_518 I_515 J_516 h_517 => ?_)
  obtain ⟨rfl, rfl, er_518⟩ := h_517
  have h0r_518 := er_518
  rw [z_hp] at er_518
  subst er_518
  refine n_if_ne C (tgt := 13) (by decide) dX11_dish_8 (by decide) ?_
  refine g_iconst C (v := (-1)) dX11_dish_11 (by decide) ?_
  exact g_zret (ty := .int) (r := (-1)) B K rfl rfl (rfl) dX11_dish_12
set_option maxRecDepth 100000 in
set_option maxHeartbeats 4000000 in
theorem t_now {l : Launch} {D : va_G} {cy : Nat → ClassId} {L : List Nat} {κ ln : Nat → Nat} {R : Nat → Nat → Option Nat} {I : Nat → Nat → Int32} {J : Nat → Nat → Int64} {ow : Nat → Nat × Nat} (W9 : ∀ a ∈ L, Shp L κ ln R ow a) {x : Nat} (hLx : x ∈ L) (hkx : κ x = 11) (FZ : Fz_ L κ I) (w : Int32) : CtI l yX11_now cX11_now 2 (some .int) { frames := 5, cells := 0, slots := 0, locals := 320 } D cy L κ ln R I J [.ref x, .int w] (fun r _ _ => r = if 0 ≤ w ∧ w ≤ 7 then 0 else -1) := by
  refine CtI.of (by decide +kernel) (Nat.le_of_ble_eq_true rfl) ?_
  intro p e s m below meth c B K
  have C := B.1
  have Z1 := fz_Z FZ 1 (by decide) (by decide) (by decide)
  have Z8 := fz_Z FZ 8 (by decide) (by decide) (by decide)
  refine g_lo (is := [0, 1]) (lo2 := [(0, .ref x), (1, .int w)]) rfl ?_
  refine g_iload_n C 1 dX11_now_0 rfl rfl ?_
  rcases pk_ix w (n := 8) (by decide) with hsw | hsw | ⟨i_519, hi_520, rfl⟩
  · skip
    refine g_tableOut C (tgt := 112) dX11_now_1 (Or.inl (sw_lt hsw)) (by decide) ?_
    refine g_iconst C (v := (-1)) dX11_now_112 (by decide) ?_
    exact g_zret (ty := .int) (r := (-1)) B K rfl rfl (p_lo hsw) dX11_now_113
  · skip
    refine g_tableOut C (tgt := 112) dX11_now_1 (Or.inr (sw_ge hsw (by decide))) (by decide) ?_
    refine g_iconst C (v := (-1)) dX11_now_112 (by decide) ?_
    exact g_zret (ty := .int) (r := (-1)) B K rfl rfl (p_hi' hsw (by decide)) dX11_now_113
  · rcases (show i_519 = 0 ∨ i_519 = 1 ∨ i_519 = 2 ∨ i_519 = 3 ∨ i_519 = 4 ∨ i_519 = 5 ∨ i_519 = 6 ∨ i_519 = 7 by omega) with rfl | rfl | rfl | rfl | rfl | rfl | rfl | rfl
    · skip
      refine g_tableIn C (tgt := 48) dX11_now_1 (by decide) (by decide) (off := 47) (by decide) (by decide) ?_
      refine g_aload_n C 0 dX11_now_48 rfl rfl ?_
      obtain ⟨b_521, hb_521, hb_521L, hb_521k⟩ := shp_o (W9 x hLx) hkx 2 1 rfl (by decide)
      refine g_getR C K hLx hkx f_11_28 hb_521 dX11_now_49 ?_
      refine g_getI C K hb_521L hb_521k f_11_195 (v := 0) ((by rw [FZ b_521 hb_521L 9, hb_521k]; rfl)) dX11_now_52 ?_
      exact g_zret (ty := .int) (r := 0) B K rfl rfl (by decide) dX11_now_55
    · skip
      refine g_tableIn C (tgt := 56) dX11_now_1 (by decide) (by decide) (off := 55) (by decide) (by decide) ?_
      refine g_aload_n C 0 dX11_now_56 rfl rfl ?_
      obtain ⟨b_522, hb_522, hb_522L, hb_522k⟩ := shp_o (W9 x hLx) hkx 2 1 rfl (by decide)
      refine g_getR C K hLx hkx f_11_28 hb_522 dX11_now_57 ?_
      refine g_getI C K hb_522L hb_522k f_11_151 (v := 0) ((by rw [FZ b_522 hb_522L 7, hb_522k]; rfl)) dX11_now_60 ?_
      exact g_zret (ty := .int) (r := 0) B K rfl rfl (by decide) dX11_now_63
    · skip
      refine g_tableIn C (tgt := 64) dX11_now_1 (by decide) (by decide) (off := 63) (by decide) (by decide) ?_
      refine g_aload_n C 0 dX11_now_64 rfl rfl ?_
      obtain ⟨b_523, hb_523, hb_523L, hb_523k⟩ := shp_o (W9 x hLx) hkx 2 1 rfl (by decide)
      refine g_getR C K hLx hkx f_11_28 hb_523 dX11_now_65 ?_
      refine g_getI C K hb_523L hb_523k f_11_154 (v := 0) ((by rw [FZ b_523 hb_523L 8, hb_523k]; rfl)) dX11_now_68 ?_
      exact g_zret (ty := .int) (r := 0) B K rfl rfl (by decide) dX11_now_71
    · skip
      refine g_tableIn C (tgt := 72) dX11_now_1 (by decide) (by decide) (off := 71) (by decide) (by decide) ?_
      refine g_aload_n C 0 dX11_now_72 rfl rfl ?_
      obtain ⟨b_524, hb_524, hb_524L, hb_524k⟩ := shp_o (W9 x hLx) hkx 2 1 rfl (by decide)
      refine g_getR C K hLx hkx f_11_28 hb_524 dX11_now_73 ?_
      refine g_getI C K hb_524L hb_524k f_11_198 (v := 0) ((by rw [FZ b_524 hb_524L 10, hb_524k]; rfl)) dX11_now_76 ?_
      exact g_zret (ty := .int) (r := 0) B K rfl rfl (by decide) dX11_now_79
    · skip
      refine g_tableIn C (tgt := 80) dX11_now_1 (by decide) (by decide) (off := 79) (by decide) (by decide) ?_
      refine g_aload_n C 0 dX11_now_80 rfl rfl ?_
      obtain ⟨b_525, hb_525, hb_525L, hb_525k⟩ := shp_o (W9 x hLx) hkx 2 1 rfl (by decide)
      refine g_getR C K hLx hkx f_11_28 hb_525 dX11_now_81 ?_
      refine g_getI C K hb_525L hb_525k f_11_201 (v := 0) ((by rw [FZ b_525 hb_525L 11, hb_525k]; rfl)) dX11_now_84 ?_
      exact g_zret (ty := .int) (r := 0) B K rfl rfl (by decide) dX11_now_87
    · skip
      refine g_tableIn C (tgt := 88) dX11_now_1 (by decide) (by decide) (off := 87) (by decide) (by decide) ?_
      refine g_aload_n C 0 dX11_now_88 rfl rfl ?_
      obtain ⟨b_526, hb_526, hb_526L, hb_526k⟩ := shp_o (W9 x hLx) hkx 2 1 rfl (by decide)
      refine g_getR C K hLx hkx f_11_28 hb_526 dX11_now_89 ?_
      refine g_callVI C K (c_Course_allEaten0 W9 hb_526L hb_526k (Z8)) hb_526L hb_526k (by decide) rfl v_11_204 rfl ⟨rfl, rfl⟩ ⟨Nat.le_of_ble_eq_true rfl, Nat.le_of_ble_eq_true rfl⟩ (Nat.le_of_ble_eq_true rfl) ⟨Nat.le_of_ble_eq_true rfl, Nat.le_of_ble_eq_true rfl⟩ dX11_now_92 rfl (st := []) (fun r_530 I_527 J_528 h_529 => ?_)
      obtain ⟨rfl, rfl, er_530⟩ := h_529
      have h0r_530 := er_530
      subst er_530
      exact g_zret (ty := .int) (r := 0) B K rfl rfl (by decide) dX11_now_95
    · skip
      refine g_tableIn C (tgt := 96) dX11_now_1 (by decide) (by decide) (off := 95) (by decide) (by decide) ?_
      refine g_aload_n C 0 dX11_now_96 rfl rfl ?_
      obtain ⟨b_531, hb_531, hb_531L, hb_531k⟩ := shp_o (W9 x hLx) hkx 2 1 rfl (by decide)
      refine g_getR C K hLx hkx f_11_28 hb_531 dX11_now_97 ?_
      refine g_callVI C K (c_Course_allHunger0 W9 hb_531L hb_531k (Z8)) hb_531L hb_531k (by decide) rfl v_11_207 rfl ⟨rfl, rfl⟩ ⟨Nat.le_of_ble_eq_true rfl, Nat.le_of_ble_eq_true rfl⟩ (Nat.le_of_ble_eq_true rfl) ⟨Nat.le_of_ble_eq_true rfl, Nat.le_of_ble_eq_true rfl⟩ dX11_now_100 rfl (st := []) (fun r_535 I_532 J_533 h_534 => ?_)
      obtain ⟨rfl, rfl, er_535⟩ := h_534
      have h0r_535 := er_535
      subst er_535
      exact g_zret (ty := .int) (r := 0) B K rfl rfl (by decide) dX11_now_103
    · skip
      refine g_tableIn C (tgt := 104) dX11_now_1 (by decide) (by decide) (off := 103) (by decide) (by decide) ?_
      refine g_aload_n C 0 dX11_now_104 rfl rfl ?_
      obtain ⟨b_536, hb_536, hb_536L, hb_536k⟩ := shp_o (W9 x hLx) hkx 2 1 rfl (by decide)
      refine g_getR C K hLx hkx f_11_28 hb_536 dX11_now_105 ?_
      refine g_getI C K hb_536L hb_536k f_11_210 (v := 0) ((by rw [FZ b_536 hb_536L 12, hb_536k]; rfl)) dX11_now_108 ?_
      exact g_zret (ty := .int) (r := 0) B K rfl rfl (by decide) dX11_now_111
set_option maxRecDepth 100000 in
set_option maxHeartbeats 4000000 in
theorem t_eat {l : Launch} {D : va_G} {cy : Nat → ClassId} {L : List Nat} {κ ln : Nat → Nat} {R : Nat → Nat → Option Nat} {I : Nat → Nat → Int32} {J : Nat → Nat → Int64} {ow : Nat → Nat × Nat} (W9 : ∀ a ∈ L, Shp L κ ln R ow a) {x : Nat} (hLx : x ∈ L) (hkx : κ x = 11) (FZ : Fz_ L κ I) (p1 : Int32) (d : Int32) (n : Int32) : CtI l yX11_eat cX11_eat 4 (some .int) { frames := 5, cells := 0, slots := 0, locals := 320 } D cy L κ ln R I J [.ref x, .int p1, .int d, .int n] (fun r _ _ => r = -1) := by
  refine CtI.of (by decide +kernel) (Nat.le_of_ble_eq_true rfl) ?_
  intro p e s m below meth c B K
  have C := B.1
  have Z1 := fz_Z FZ 1 (by decide) (by decide) (by decide)
  have Z8 := fz_Z FZ 8 (by decide) (by decide) (by decide)
  refine g_lo (is := [0, 1, 2, 3]) (lo2 := [(0, .ref x), (1, .int p1), (2, .int d), (3, .int n)]) rfl ?_
  refine g_aload_n C 0 dX11_eat_0 rfl rfl ?_
  obtain ⟨b_537, hb_537, hb_537L, hb_537k⟩ := shp_o (W9 x hLx) hkx 1 8 rfl (by decide)
  refine g_getR C K hLx hkx f_11_19 hb_537 dX11_eat_1 ?_
  refine g_iload_n C 1 dX11_eat_4 rfl rfl ?_
  refine g_callVI C K (c_Table_hasPerson hb_537L hb_537k p1 0 ((by rw [FZ b_537 hb_537L 5, hb_537k]; rfl))) hb_537L hb_537k (by decide) rfl v_11_133 rfl ⟨rfl, rfl⟩ ⟨Nat.le_of_ble_eq_true rfl, Nat.le_of_ble_eq_true rfl⟩ (Nat.le_of_ble_eq_true rfl) ⟨Nat.le_of_ble_eq_true rfl, Nat.le_of_ble_eq_true rfl⟩ dX11_eat_5 rfl (st := []) (fun r_541 I_538 J_539 h_540 => ?_)
  obtain ⟨rfl, rfl, er_541⟩ := h_540
  have h0r_541 := er_541
  rw [z_hp] at er_541
  subst er_541
  refine t_if_eq C (tgt := 33) (by decide) dX11_eat_8 (by decide) ?_
  refine g_iconst C (v := (-1)) dX11_eat_33 (by decide) ?_
  exact g_zret (ty := .int) (r := (-1)) B K rfl rfl (rfl) dX11_eat_34
set_option maxRecDepth 100000 in
set_option maxHeartbeats 4000000 in
theorem t_serve {l : Launch} {D : va_G} {cy : Nat → ClassId} {L : List Nat} {κ ln : Nat → Nat} {R : Nat → Nat → Option Nat} {I : Nat → Nat → Int32} {J : Nat → Nat → Int64} {ow : Nat → Nat × Nat} (W9 : ∀ a ∈ L, Shp L κ ln R ow a) {x : Nat} (hLx : x ∈ L) (hkx : κ x = 11) (FZ : Fz_ L κ I) (p1 : Int32) (d : Int32) (n : Int32) : CtI l yX11_serve cX11_serve 4 (some .int) { frames := 5, cells := 0, slots := 0, locals := 320 } D cy L κ ln R I J [.ref x, .int p1, .int d, .int n] (fun r _ _ => r = -1) := by
  refine CtI.of (by decide +kernel) (Nat.le_of_ble_eq_true rfl) ?_
  intro p e s m below meth c B K
  have C := B.1
  have Z1 := fz_Z FZ 1 (by decide) (by decide) (by decide)
  have Z8 := fz_Z FZ 8 (by decide) (by decide) (by decide)
  refine g_lo (is := [0, 1, 2, 3]) (lo2 := [(0, .ref x), (1, .int p1), (2, .int d), (3, .int n)]) rfl ?_
  refine g_aload_n C 0 dX11_serve_0 rfl rfl ?_
  obtain ⟨b_542, hb_542, hb_542L, hb_542k⟩ := shp_o (W9 x hLx) hkx 1 8 rfl (by decide)
  refine g_getR C K hLx hkx f_11_19 hb_542 dX11_serve_1 ?_
  refine g_iload_n C 1 dX11_serve_4 rfl rfl ?_
  refine g_callVI C K (c_Table_hasPerson hb_542L hb_542k p1 0 ((by rw [FZ b_542 hb_542L 5, hb_542k]; rfl))) hb_542L hb_542k (by decide) rfl v_11_133 rfl ⟨rfl, rfl⟩ ⟨Nat.le_of_ble_eq_true rfl, Nat.le_of_ble_eq_true rfl⟩ (Nat.le_of_ble_eq_true rfl) ⟨Nat.le_of_ble_eq_true rfl, Nat.le_of_ble_eq_true rfl⟩ dX11_serve_5 rfl (st := []) (fun r_546 I_543 J_544 h_545 => ?_)
  obtain ⟨rfl, rfl, er_546⟩ := h_545
  have h0r_546 := er_546
  rw [z_hp] at er_546
  subst er_546
  refine t_if_eq C (tgt := 33) (by decide) dX11_serve_8 (by decide) ?_
  refine g_iconst C (v := (-1)) dX11_serve_33 (by decide) ?_
  exact g_zret (ty := .int) (r := (-1)) B K rfl rfl (rfl) dX11_serve_34
set_option maxRecDepth 100000 in
set_option maxHeartbeats 4000000 in
theorem t_rise {l : Launch} {D : va_G} {cy : Nat → ClassId} {L : List Nat} {κ ln : Nat → Nat} {R : Nat → Nat → Option Nat} {I : Nat → Nat → Int32} {J : Nat → Nat → Int64} {ow : Nat → Nat × Nat} (W9 : ∀ a ∈ L, Shp L κ ln R ow a) {x : Nat} (hLx : x ∈ L) (hkx : κ x = 11) (FZ : Fz_ L κ I) (p1 : Int32) : CtI l yX11_rise cX11_rise 2 (some .int) { frames := 5, cells := 0, slots := 0, locals := 320 } D cy L κ ln R I J [.ref x, .int p1] (fun r _ _ => r = -1) := by
  refine CtI.of (by decide +kernel) (Nat.le_of_ble_eq_true rfl) ?_
  intro p e s m below meth c B K
  have C := B.1
  have Z1 := fz_Z FZ 1 (by decide) (by decide) (by decide)
  have Z8 := fz_Z FZ 8 (by decide) (by decide) (by decide)
  refine g_lo (is := [0, 1]) (lo2 := [(0, .ref x), (1, .int p1)]) rfl ?_
  refine g_aload_n C 0 dX11_rise_0 rfl rfl ?_
  obtain ⟨b_547, hb_547, hb_547L, hb_547k⟩ := shp_o (W9 x hLx) hkx 1 8 rfl (by decide)
  refine g_getR C K hLx hkx f_11_19 hb_547 dX11_rise_1 ?_
  refine g_iload_n C 1 dX11_rise_4 rfl rfl ?_
  refine g_callVI C K (c_Table_hasPerson hb_547L hb_547k p1 0 ((by rw [FZ b_547 hb_547L 5, hb_547k]; rfl))) hb_547L hb_547k (by decide) rfl v_11_133 rfl ⟨rfl, rfl⟩ ⟨Nat.le_of_ble_eq_true rfl, Nat.le_of_ble_eq_true rfl⟩ (Nat.le_of_ble_eq_true rfl) ⟨Nat.le_of_ble_eq_true rfl, Nat.le_of_ble_eq_true rfl⟩ dX11_rise_5 rfl (st := []) (fun r_551 I_548 J_549 h_550 => ?_)
  obtain ⟨rfl, rfl, er_551⟩ := h_550
  have h0r_551 := er_551
  rw [z_hp] at er_551
  subst er_551
  refine n_if_ne C (tgt := 13) (by decide) dX11_rise_8 (by decide) ?_
  refine g_iconst C (v := (-1)) dX11_rise_11 (by decide) ?_
  exact g_zret (ty := .int) (r := (-1)) B K rfl rfl (rfl) dX11_rise_12
set_option maxRecDepth 100000 in
set_option maxHeartbeats 4000000 in
theorem t_refuse {l : Launch} {D : va_G} {cy : Nat → ClassId} {L : List Nat} {κ ln : Nat → Nat} {R : Nat → Nat → Option Nat} {I : Nat → Nat → Int32} {J : Nat → Nat → Int64} {ow : Nat → Nat × Nat} (W9 : ∀ a ∈ L, Shp L κ ln R ow a) {x : Nat} (hLx : x ∈ L) (hkx : κ x = 11) (FZ : Fz_ L κ I) (p1 : Int32) : CtI l yX11_refuse cX11_refuse 2 (some .int) { frames := 5, cells := 0, slots := 0, locals := 320 } D cy L κ ln R I J [.ref x, .int p1] (fun r _ _ => r = -1) := by
  refine CtI.of (by decide +kernel) (Nat.le_of_ble_eq_true rfl) ?_
  intro p e s m below meth c B K
  have C := B.1
  have Z1 := fz_Z FZ 1 (by decide) (by decide) (by decide)
  have Z8 := fz_Z FZ 8 (by decide) (by decide) (by decide)
  refine g_lo (is := [0, 1]) (lo2 := [(0, .ref x), (1, .int p1)]) rfl ?_
  refine g_aload_n C 0 dX11_refuse_0 rfl rfl ?_
  obtain ⟨b_552, hb_552, hb_552L, hb_552k⟩ := shp_o (W9 x hLx) hkx 1 8 rfl (by decide)
  refine g_getR C K hLx hkx f_11_19 hb_552 dX11_refuse_1 ?_
  refine g_iload_n C 1 dX11_refuse_4 rfl rfl ?_
  refine g_callVI C K (c_Table_hasPerson hb_552L hb_552k p1 0 ((by rw [FZ b_552 hb_552L 5, hb_552k]; rfl))) hb_552L hb_552k (by decide) rfl v_11_133 rfl ⟨rfl, rfl⟩ ⟨Nat.le_of_ble_eq_true rfl, Nat.le_of_ble_eq_true rfl⟩ (Nat.le_of_ble_eq_true rfl) ⟨Nat.le_of_ble_eq_true rfl, Nat.le_of_ble_eq_true rfl⟩ dX11_refuse_5 rfl (st := []) (fun r_556 I_553 J_554 h_555 => ?_)
  obtain ⟨rfl, rfl, er_556⟩ := h_555
  have h0r_556 := er_556
  rw [z_hp] at er_556
  subst er_556
  refine n_if_ne C (tgt := 13) (by decide) dX11_refuse_8 (by decide) ?_
  refine g_iconst C (v := (-1)) dX11_refuse_11 (by decide) ?_
  exact g_zret (ty := .int) (r := (-1)) B K rfl rfl (rfl) dX11_refuse_12
set_option maxRecDepth 100000 in
set_option maxHeartbeats 4000000 in
theorem t_accept {l : Launch} {D : va_G} {cy : Nat → ClassId} {L : List Nat} {κ ln : Nat → Nat} {R : Nat → Nat → Option Nat} {I : Nat → Nat → Int32} {J : Nat → Nat → Int64} {ow : Nat → Nat × Nat} (W9 : ∀ a ∈ L, Shp L κ ln R ow a) {x : Nat} (hLx : x ∈ L) (hkx : κ x = 11) (FZ : Fz_ L κ I) (p1 : Int32) : CtI l yX11_accept cX11_accept 2 (some .int) { frames := 5, cells := 0, slots := 0, locals := 320 } D cy L κ ln R I J [.ref x, .int p1] (fun r _ _ => r = -1) := by
  refine CtI.of (by decide +kernel) (Nat.le_of_ble_eq_true rfl) ?_
  intro p e s m below meth c B K
  have C := B.1
  have Z1 := fz_Z FZ 1 (by decide) (by decide) (by decide)
  have Z8 := fz_Z FZ 8 (by decide) (by decide) (by decide)
  refine g_lo (is := [0, 1]) (lo2 := [(0, .ref x), (1, .int p1)]) rfl ?_
  refine g_aload_n C 0 dX11_accept_0 rfl rfl ?_
  obtain ⟨b_557, hb_557, hb_557L, hb_557k⟩ := shp_o (W9 x hLx) hkx 1 8 rfl (by decide)
  refine g_getR C K hLx hkx f_11_19 hb_557 dX11_accept_1 ?_
  refine g_iload_n C 1 dX11_accept_4 rfl rfl ?_
  refine g_callVI C K (c_Table_hasPerson hb_557L hb_557k p1 0 ((by rw [FZ b_557 hb_557L 5, hb_557k]; rfl))) hb_557L hb_557k (by decide) rfl v_11_133 rfl ⟨rfl, rfl⟩ ⟨Nat.le_of_ble_eq_true rfl, Nat.le_of_ble_eq_true rfl⟩ (Nat.le_of_ble_eq_true rfl) ⟨Nat.le_of_ble_eq_true rfl, Nat.le_of_ble_eq_true rfl⟩ dX11_accept_5 rfl (st := []) (fun r_561 I_558 J_559 h_560 => ?_)
  obtain ⟨rfl, rfl, er_561⟩ := h_560
  have h0r_561 := er_561
  rw [z_hp] at er_561
  subst er_561
  refine n_if_ne C (tgt := 13) (by decide) dX11_accept_8 (by decide) ?_
  refine g_iconst C (v := (-1)) dX11_accept_11 (by decide) ?_
  exact g_zret (ty := .int) (r := (-1)) B K rfl rfl (rfl) dX11_accept_12
set_option maxRecDepth 100000 in
set_option maxHeartbeats 4000000 in
theorem t_die {l : Launch} {D : va_G} {cy : Nat → ClassId} {L : List Nat} {κ ln : Nat → Nat} {R : Nat → Nat → Option Nat} {I : Nat → Nat → Int32} {J : Nat → Nat → Int64} {ow : Nat → Nat × Nat} (W9 : ∀ a ∈ L, Shp L κ ln R ow a) {x : Nat} (hLx : x ∈ L) (hkx : κ x = 11) (FZ : Fz_ L κ I) (p1 : Int32) : CtI l yX11_die cX11_die 2 (some .int) { frames := 5, cells := 0, slots := 0, locals := 320 } D cy L κ ln R I J [.ref x, .int p1] (fun r _ _ => r = -1) := by
  refine CtI.of (by decide +kernel) (Nat.le_of_ble_eq_true rfl) ?_
  intro p e s m below meth c B K
  have C := B.1
  have Z1 := fz_Z FZ 1 (by decide) (by decide) (by decide)
  have Z8 := fz_Z FZ 8 (by decide) (by decide) (by decide)
  refine g_lo (is := [0, 1]) (lo2 := [(0, .ref x), (1, .int p1)]) rfl ?_
  refine g_aload_n C 0 dX11_die_0 rfl rfl ?_
  obtain ⟨b_562, hb_562, hb_562L, hb_562k⟩ := shp_o (W9 x hLx) hkx 1 8 rfl (by decide)
  refine g_getR C K hLx hkx f_11_19 hb_562 dX11_die_1 ?_
  refine g_iload_n C 1 dX11_die_4 rfl rfl ?_
  refine g_callVI C K (c_Table_hasPerson hb_562L hb_562k p1 0 ((by rw [FZ b_562 hb_562L 5, hb_562k]; rfl))) hb_562L hb_562k (by decide) rfl v_11_133 rfl ⟨rfl, rfl⟩ ⟨Nat.le_of_ble_eq_true rfl, Nat.le_of_ble_eq_true rfl⟩ (Nat.le_of_ble_eq_true rfl) ⟨Nat.le_of_ble_eq_true rfl, Nat.le_of_ble_eq_true rfl⟩ dX11_die_5 rfl (st := []) (fun r_566 I_563 J_564 h_565 => ?_)
  obtain ⟨rfl, rfl, er_566⟩ := h_565
  have h0r_566 := er_566
  rw [z_hp] at er_566
  subst er_566
  refine n_if_ne C (tgt := 13) (by decide) dX11_die_8 (by decide) ?_
  refine g_iconst C (v := (-1)) dX11_die_11 (by decide) ?_
  exact g_zret (ty := .int) (r := (-1)) B K rfl rfl (rfl) dX11_die_12
set_option maxRecDepth 100000 in
set_option maxHeartbeats 4000000 in
theorem t_heir {l : Launch} {D : va_G} {cy : Nat → ClassId} {L : List Nat} {κ ln : Nat → Nat} {R : Nat → Nat → Option Nat} {I : Nat → Nat → Int32} {J : Nat → Nat → Int64} {ow : Nat → Nat × Nat} (W9 : ∀ a ∈ L, Shp L κ ln R ow a) {x : Nat} (hLx : x ∈ L) (hkx : κ x = 11) (FZ : Fz_ L κ I) (p1 : Int32) : CtI l yX11_heir cX11_heir 2 (some .int) { frames := 5, cells := 0, slots := 0, locals := 320 } D cy L κ ln R I J [.ref x, .int p1] (fun r _ _ => r = -1) := by
  refine CtI.of (by decide +kernel) (Nat.le_of_ble_eq_true rfl) ?_
  intro p e s m below meth c B K
  have C := B.1
  have Z1 := fz_Z FZ 1 (by decide) (by decide) (by decide)
  have Z8 := fz_Z FZ 8 (by decide) (by decide) (by decide)
  refine g_lo (is := [0, 1]) (lo2 := [(0, .ref x), (1, .int p1)]) rfl ?_
  refine g_aload_n C 0 dX11_heir_0 rfl rfl ?_
  obtain ⟨b_567, hb_567, hb_567L, hb_567k⟩ := shp_o (W9 x hLx) hkx 1 8 rfl (by decide)
  refine g_getR C K hLx hkx f_11_19 hb_567 dX11_heir_1 ?_
  refine g_iload_n C 1 dX11_heir_4 rfl rfl ?_
  refine g_callVI C K (c_Table_hasPerson hb_567L hb_567k p1 0 ((by rw [FZ b_567 hb_567L 5, hb_567k]; rfl))) hb_567L hb_567k (by decide) rfl v_11_133 rfl ⟨rfl, rfl⟩ ⟨Nat.le_of_ble_eq_true rfl, Nat.le_of_ble_eq_true rfl⟩ (Nat.le_of_ble_eq_true rfl) ⟨Nat.le_of_ble_eq_true rfl, Nat.le_of_ble_eq_true rfl⟩ dX11_heir_5 rfl (st := []) (fun r_571 I_568 J_569 h_570 => ?_)
  obtain ⟨rfl, rfl, er_571⟩ := h_570
  have h0r_571 := er_571
  rw [z_hp] at er_571
  subst er_571
  refine t_if_eq C (tgt := 29) (by decide) dX11_heir_8 (by decide) ?_
  refine g_iconst C (v := (-1)) dX11_heir_29 (by decide) ?_
  exact g_zret (ty := .int) (r := (-1)) B K rfl rfl (rfl) dX11_heir_30
set_option maxRecDepth 100000 in
set_option maxHeartbeats 4000000 in
theorem t_will {l : Launch} {D : va_G} {cy : Nat → ClassId} {L : List Nat} {κ ln : Nat → Nat} {R : Nat → Nat → Option Nat} {I : Nat → Nat → Int32} {J : Nat → Nat → Int64} {ow : Nat → Nat × Nat} (W9 : ∀ a ∈ L, Shp L κ ln R ow a) {x : Nat} (hLx : x ∈ L) (hkx : κ x = 11) (FZ : Fz_ L κ I) (p1 : Int32) : CtI l yX11_will cX11_will 4 (some .int) { frames := 5, cells := 0, slots := 0, locals := 320 } D cy L κ ln R I J [.ref x, .int p1] (fun r _ _ => r = -1) := by
  refine CtI.of (by decide +kernel) (Nat.le_of_ble_eq_true rfl) ?_
  intro p e s m below meth c B K
  have C := B.1
  have Z1 := fz_Z FZ 1 (by decide) (by decide) (by decide)
  have Z8 := fz_Z FZ 8 (by decide) (by decide) (by decide)
  refine g_lo (is := [0, 1]) (lo2 := [(0, .ref x), (1, .int p1)]) rfl ?_
  refine g_aload_n C 0 dX11_will_0 rfl rfl ?_
  obtain ⟨b_572, hb_572, hb_572L, hb_572k⟩ := shp_o (W9 x hLx) hkx 1 8 rfl (by decide)
  refine g_getR C K hLx hkx f_11_19 hb_572 dX11_will_1 ?_
  refine g_iload_n C 1 dX11_will_4 rfl rfl ?_
  refine g_callVI C K (c_Table_hasPerson hb_572L hb_572k p1 0 ((by rw [FZ b_572 hb_572L 5, hb_572k]; rfl))) hb_572L hb_572k (by decide) rfl v_11_133 rfl ⟨rfl, rfl⟩ ⟨Nat.le_of_ble_eq_true rfl, Nat.le_of_ble_eq_true rfl⟩ (Nat.le_of_ble_eq_true rfl) ⟨Nat.le_of_ble_eq_true rfl, Nat.le_of_ble_eq_true rfl⟩ dX11_will_5 rfl (st := []) (fun r_576 I_573 J_574 h_575 => ?_)
  obtain ⟨rfl, rfl, er_576⟩ := h_575
  have h0r_576 := er_576
  rw [z_hp] at er_576
  subst er_576
  refine n_if_ne C (tgt := 13) (by decide) dX11_will_8 (by decide) ?_
  refine g_iconst C (v := (-1)) dX11_will_11 (by decide) ?_
  exact g_zret (ty := .int) (r := (-1)) B K rfl rfl (rfl) dX11_will_12
set_option maxRecDepth 100000 in
set_option maxHeartbeats 4000000 in
theorem t_line {l : Launch} {D : va_G} {cy : Nat → ClassId} {L : List Nat} {κ ln : Nat → Nat} {R : Nat → Nat → Option Nat} {I : Nat → Nat → Int32} {J : Nat → Nat → Int64} {ow : Nat → Nat × Nat} (W9 : ∀ a ∈ L, Shp L κ ln R ow a) {x : Nat} (hLx : x ∈ L) (hkx : κ x = 11) (FZ : Fz_ L κ I) (p1 : Int32) (k : Int32) : CtI l yX11_line cX11_line 6 (some .int) { frames := 5, cells := 0, slots := 0, locals := 320 } D cy L κ ln R I J [.ref x, .int p1, .int k] (fun r _ _ => r = -1) := by
  refine CtI.of (by decide +kernel) (Nat.le_of_ble_eq_true rfl) ?_
  intro p e s m below meth c B K
  have C := B.1
  have Z1 := fz_Z FZ 1 (by decide) (by decide) (by decide)
  have Z8 := fz_Z FZ 8 (by decide) (by decide) (by decide)
  refine g_lo (is := [0, 1, 2]) (lo2 := [(0, .ref x), (1, .int p1), (2, .int k)]) rfl ?_
  refine g_aload_n C 0 dX11_line_0 rfl rfl ?_
  obtain ⟨b_577, hb_577, hb_577L, hb_577k⟩ := shp_o (W9 x hLx) hkx 1 8 rfl (by decide)
  refine g_getR C K hLx hkx f_11_19 hb_577 dX11_line_1 ?_
  refine g_iload_n C 1 dX11_line_4 rfl rfl ?_
  refine g_callVI C K (c_Table_hasPerson hb_577L hb_577k p1 0 ((by rw [FZ b_577 hb_577L 5, hb_577k]; rfl))) hb_577L hb_577k (by decide) rfl v_11_133 rfl ⟨rfl, rfl⟩ ⟨Nat.le_of_ble_eq_true rfl, Nat.le_of_ble_eq_true rfl⟩ (Nat.le_of_ble_eq_true rfl) ⟨Nat.le_of_ble_eq_true rfl, Nat.le_of_ble_eq_true rfl⟩ dX11_line_5 rfl (st := []) (fun r_581 I_578 J_579 h_580 => ?_)
  obtain ⟨rfl, rfl, er_581⟩ := h_580
  have h0r_581 := er_581
  rw [z_hp] at er_581
  subst er_581
  refine t_if_eq C (tgt := 21) (by decide) dX11_line_8 (by decide) ?_
  refine g_iconst C (v := (-1)) dX11_line_21 (by decide) ?_
  exact g_zret (ty := .int) (r := (-1)) B K rfl rfl (rfl) dX11_line_22
set_option maxRecDepth 100000 in
set_option maxHeartbeats 4000000 in
theorem t_undo {l : Launch} {D : va_G} {cy : Nat → ClassId} {L : List Nat} {κ ln : Nat → Nat} {R : Nat → Nat → Option Nat} {I : Nat → Nat → Int32} {J : Nat → Nat → Int64} {ow : Nat → Nat × Nat} (W9 : ∀ a ∈ L, Shp L κ ln R ow a) {x : Nat} (hLx : x ∈ L) (hkx : κ x = 11) (FZ : Fz_ L κ I) : CtI l yX11_undo cX11_undo 1 (some .int) { frames := 5, cells := 0, slots := 0, locals := 320 } D cy L κ ln R I J [.ref x] (fun r _ _ => r = -1) := by
  refine CtI.of (by decide +kernel) (Nat.le_of_ble_eq_true rfl) ?_
  intro p e s m below meth c B K
  have C := B.1
  have Z1 := fz_Z FZ 1 (by decide) (by decide) (by decide)
  have Z8 := fz_Z FZ 8 (by decide) (by decide) (by decide)
  refine g_lo (is := [0]) (lo2 := [(0, .ref x)]) rfl ?_
  refine g_aload_n C 0 dX11_undo_0 rfl rfl ?_
  obtain ⟨b_582, hb_582, hb_582L, hb_582k⟩ := shp_o (W9 x hLx) hkx 4 5 rfl (by decide)
  refine g_getR C K hLx hkx f_11_38 hb_582 dX11_undo_1 ?_
  refine g_aload_n C 0 dX11_undo_4 rfl rfl ?_
  obtain ⟨b_583, hb_583, hb_583L, hb_583k⟩ := shp_o (W9 x hLx) hkx 2 1 rfl (by decide)
  refine g_getR C K hLx hkx f_11_28 hb_583 dX11_undo_5 ?_
  refine g_callVI C K (c_Past_takeBack0 hb_582L hb_582k hb_583L hb_583k ((by rw [FZ b_582 hb_582L 1, hb_582k]; rfl))) hb_582L hb_582k (by decide) rfl v_11_256 rfl ⟨rfl, rfl⟩ ⟨Nat.le_of_ble_eq_true rfl, Nat.le_of_ble_eq_true rfl⟩ (Nat.le_of_ble_eq_true rfl) ⟨Nat.le_of_ble_eq_true rfl, Nat.le_of_ble_eq_true rfl⟩ dX11_undo_8 rfl (st := []) (fun r_587 I_584 J_585 h_586 => ?_)
  obtain ⟨rfl, rfl, er_587⟩ := h_586
  have h0r_587 := er_587
  subst er_587
  exact g_zret (ty := .int) (r := (-1)) B K rfl rfl (rfl) dX11_undo_11
set_option maxRecDepth 100000 in
set_option maxHeartbeats 4000000 in
theorem t_order {l : Launch} {D : va_G} {cy : Nat → ClassId} {L : List Nat} {κ ln : Nat → Nat} {R : Nat → Nat → Option Nat} {I : Nat → Nat → Int32} {J : Nat → Nat → Int64} {ow : Nat → Nat × Nat} (W9 : ∀ a ∈ L, Shp L κ ln R ow a) {x : Nat} (hLx : x ∈ L) (hkx : κ x = 11) (FZ : Fz_ L κ I) : CtI l yX11_order cX11_order 1 (some .int) { frames := 5, cells := 0, slots := 0, locals := 320 } D cy L κ ln R I J [.ref x] (fun r _ _ => r = 0) := by
  refine CtI.of (by decide +kernel) (Nat.le_of_ble_eq_true rfl) ?_
  intro p e s m below meth c B K
  have C := B.1
  have Z1 := fz_Z FZ 1 (by decide) (by decide) (by decide)
  have Z8 := fz_Z FZ 8 (by decide) (by decide) (by decide)
  refine g_lo (is := [0]) (lo2 := [(0, .ref x)]) rfl ?_
  refine g_aload_n C 0 dX11_order_0 rfl rfl ?_
  obtain ⟨b_588, hb_588, hb_588L, hb_588k⟩ := shp_o (W9 x hLx) hkx 9 4 rfl (by decide)
  refine g_getR C K hLx hkx f_11_69 hb_588 dX11_order_1 ?_
  refine g_aload_n C 0 dX11_order_4 rfl rfl ?_
  obtain ⟨b_589, hb_589, hb_589L, hb_589k⟩ := shp_o (W9 x hLx) hkx 2 1 rfl (by decide)
  refine g_getR C K hLx hkx f_11_28 hb_589 dX11_order_5 ?_
  refine g_callVI C K (c_Order_findFrom0 W9 hb_588L hb_588k hb_589L hb_589k Z1 Z8) hb_588L hb_588k (by decide) rfl v_11_266 rfl ⟨rfl, rfl⟩ ⟨Nat.le_of_ble_eq_true rfl, Nat.le_of_ble_eq_true rfl⟩ (Nat.le_of_ble_eq_true rfl) ⟨Nat.le_of_ble_eq_true rfl, Nat.le_of_ble_eq_true rfl⟩ dX11_order_8 rfl (st := []) (fun r_593 I_590 J_591 h_592 => ?_)
  obtain ⟨rfl, f_594, rfl⟩ := h_592
  exact g_zret (ty := .int) (r := 0) B K rfl rfl (rfl) dX11_order_11
set_option maxRecDepth 100000 in
set_option maxHeartbeats 4000000 in
theorem t_orderAt {l : Launch} {D : va_G} {cy : Nat → ClassId} {L : List Nat} {κ ln : Nat → Nat} {R : Nat → Nat → Option Nat} {I : Nat → Nat → Int32} {J : Nat → Nat → Int64} {ow : Nat → Nat × Nat} (W9 : ∀ a ∈ L, Shp L κ ln R ow a) {x : Nat} (hLx : x ∈ L) (hkx : κ x = 11) (FZ : Fz_ L κ I) (k : Int32) : CtI l yX11_orderAt cX11_orderAt 2 (some .int) { frames := 5, cells := 0, slots := 0, locals := 320 } D cy L κ ln R I J [.ref x, .int k] (fun r _ _ => r = -1) := by
  refine CtI.of (by decide +kernel) (Nat.le_of_ble_eq_true rfl) ?_
  intro p e s m below meth c B K
  have C := B.1
  have Z1 := fz_Z FZ 1 (by decide) (by decide) (by decide)
  have Z8 := fz_Z FZ 8 (by decide) (by decide) (by decide)
  refine g_lo (is := [0, 1]) (lo2 := [(0, .ref x), (1, .int k)]) rfl ?_
  refine g_iload_n C 1 dX11_orderAt_0 rfl rfl ?_
  refine g_if_lt C (tgt := 27) dX11_orderAt_1 (by decide) (fun h_596 => ?_) (fun h_596 => ?_)
  · skip
    refine g_iconst C (v := (-1)) dX11_orderAt_27 (by decide) ?_
    exact g_zret (ty := .int) (r := (-1)) B K rfl rfl (rfl) dX11_orderAt_28
  · skip
    refine g_iload_n C 1 dX11_orderAt_4 rfl rfl ?_
    refine g_aload_n C 0 dX11_orderAt_5 rfl rfl ?_
    obtain ⟨b_597, hb_597, hb_597L, hb_597k⟩ := shp_o (W9 x hLx) hkx 9 4 rfl (by decide)
    refine g_getR C K hLx hkx f_11_69 hb_597 dX11_orderAt_6 ?_
    refine g_getI C K hb_597L hb_597k f_11_269 (v := 0) ((by rw [FZ b_597 hb_597L 3, hb_597k]; rfl)) dX11_orderAt_9 ?_
    refine t_icmp_ge C (tgt := 27) (i32_lt_le h_596) dX11_orderAt_12 (by decide) ?_
    refine g_iconst C (v := (-1)) dX11_orderAt_27 (by decide) ?_
    exact g_zret (ty := .int) (r := (-1)) B K rfl rfl (rfl) dX11_orderAt_28
set_option maxRecDepth 100000 in
set_option maxHeartbeats 4000000 in
theorem t_seatAt {l : Launch} {D : va_G} {cy : Nat → ClassId} {L : List Nat} {κ ln : Nat → Nat} {R : Nat → Nat → Option Nat} {I : Nat → Nat → Int32} {J : Nat → Nat → Int64} {ow : Nat → Nat × Nat} (W9 : ∀ a ∈ L, Shp L κ ln R ow a) {x : Nat} (hLx : x ∈ L) (hkx : κ x = 11) (FZ : Fz_ L κ I) (k : Int32) : CtI l yX11_seatAt cX11_seatAt 2 (some .int) { frames := 5, cells := 0, slots := 0, locals := 320 } D cy L κ ln R I J [.ref x, .int k] (fun r _ _ => r = -1) := by
  refine CtI.of (by decide +kernel) (Nat.le_of_ble_eq_true rfl) ?_
  intro p e s m below meth c B K
  have C := B.1
  have Z1 := fz_Z FZ 1 (by decide) (by decide) (by decide)
  have Z8 := fz_Z FZ 8 (by decide) (by decide) (by decide)
  refine g_lo (is := [0, 1]) (lo2 := [(0, .ref x), (1, .int k)]) rfl ?_
  refine g_iload_n C 1 dX11_seatAt_0 rfl rfl ?_
  refine g_if_lt C (tgt := 27) dX11_seatAt_1 (by decide) (fun h_598 => ?_) (fun h_598 => ?_)
  · skip
    refine g_iconst C (v := (-1)) dX11_seatAt_27 (by decide) ?_
    exact g_zret (ty := .int) (r := (-1)) B K rfl rfl (rfl) dX11_seatAt_28
  · skip
    refine g_iload_n C 1 dX11_seatAt_4 rfl rfl ?_
    refine g_aload_n C 0 dX11_seatAt_5 rfl rfl ?_
    obtain ⟨b_599, hb_599, hb_599L, hb_599k⟩ := shp_o (W9 x hLx) hkx 10 6 rfl (by decide)
    refine g_getR C K hLx hkx f_11_76 hb_599 dX11_seatAt_6 ?_
    refine g_getI C K hb_599L hb_599k f_11_294 (v := 0) ((by rw [FZ b_599 hb_599L 1, hb_599k]; rfl)) dX11_seatAt_9 ?_
    refine t_icmp_ge C (tgt := 27) (i32_lt_le h_598) dX11_seatAt_12 (by decide) ?_
    refine g_iconst C (v := (-1)) dX11_seatAt_27 (by decide) ?_
    exact g_zret (ty := .int) (r := (-1)) B K rfl rfl (rfl) dX11_seatAt_28
set_option maxRecDepth 100000 in
set_option maxHeartbeats 4000000 in
theorem t_byteAt {l : Launch} {D : va_G} {cy : Nat → ClassId} {L : List Nat} {κ ln : Nat → Nat} {R : Nat → Nat → Option Nat} {I : Nat → Nat → Int32} {J : Nat → Nat → Int64} {ow : Nat → Nat × Nat} (W9 : ∀ a ∈ L, Shp L κ ln R ow a) {x : Nat} (hLx : x ∈ L) (hkx : κ x = 11) (FZ : Fz_ L κ I) (i : Int32) : CtI l yX11_byteAt cX11_byteAt 2 (some .int) { frames := 5, cells := 0, slots := 0, locals := 320 } D cy L κ ln R I J [.ref x, .int i] (fun r _ _ => r = -1) := by
  refine CtI.of (by decide +kernel) (Nat.le_of_ble_eq_true rfl) ?_
  intro p e s m below meth c B K
  have C := B.1
  have Z1 := fz_Z FZ 1 (by decide) (by decide) (by decide)
  have Z8 := fz_Z FZ 8 (by decide) (by decide) (by decide)
  refine g_lo (is := [0, 1]) (lo2 := [(0, .ref x), (1, .int i)]) rfl ?_
  refine g_iload_n C 1 dX11_byteAt_0 rfl rfl ?_
  refine g_if_lt C (tgt := 21) dX11_byteAt_1 (by decide) (fun h_600 => ?_) (fun h_600 => ?_)
  · skip
    refine g_iconst C (v := (-1)) dX11_byteAt_21 (by decide) ?_
    exact g_zret (ty := .int) (r := (-1)) B K rfl rfl (rfl) dX11_byteAt_22
  · skip
    refine g_iload_n C 1 dX11_byteAt_4 rfl rfl ?_
    refine g_aload_n C 0 dX11_byteAt_5 rfl rfl ?_
    refine g_getI C K hLx hkx f_11_97 (v := 0) ((by rw [FZ x hLx 14, hkx]; rfl)) dX11_byteAt_6 ?_
    refine t_icmp_ge C (tgt := 21) (i32_lt_le h_600) dX11_byteAt_9 (by decide) ?_
    refine g_iconst C (v := (-1)) dX11_byteAt_21 (by decide) ?_
    exact g_zret (ty := .int) (r := (-1)) B K rfl rfl (rfl) dX11_byteAt_22
set_option maxRecDepth 100000 in
set_option maxHeartbeats 4000000 in
theorem t_eaters {l : Launch} {D : va_G} {cy : Nat → ClassId} {L : List Nat} {κ ln : Nat → Nat} {R : Nat → Nat → Option Nat} {I : Nat → Nat → Int32} {J : Nat → Nat → Int64} {ow : Nat → Nat × Nat} (W9 : ∀ a ∈ L, Shp L κ ln R ow a) {x : Nat} (hLx : x ∈ L) (hkx : κ x = 11) (FZ : Fz_ L κ I) : CtI l yX11_eaters cX11_eaters 4 (some .int) { frames := 5, cells := 0, slots := 0, locals := 320 } D cy L κ ln R I J [.ref x] (fun r _ _ => r = -1) := by
  refine CtI.of (by decide +kernel) (Nat.le_of_ble_eq_true rfl) ?_
  intro p e s m below meth c B K
  have C := B.1
  have Z1 := fz_Z FZ 1 (by decide) (by decide) (by decide)
  have Z8 := fz_Z FZ 8 (by decide) (by decide) (by decide)
  refine g_lo (is := [0]) (lo2 := [(0, .ref x)]) rfl ?_
  refine g_aload_n C 0 dX11_eaters_0 rfl rfl ?_
  obtain ⟨b_601, hb_601, hb_601L, hb_601k⟩ := shp_o (W9 x hLx) hkx 0 10 rfl (by decide)
  refine g_getR C K hLx hkx f_11_10 hb_601 dX11_eaters_1 ?_
  refine g_getI C K hb_601L hb_601k f_11_102 (v := 0) ((by rw [FZ b_601 hb_601L 5, hb_601k]; rfl)) dX11_eaters_4 ?_
  refine g_iconst C (v := 2) dX11_eaters_7 (by decide) ?_
  refine t_icmp_ne C (tgt := 15) (by decide) dX11_eaters_8 (by decide) ?_
  refine g_iconst C (v := 0) dX11_eaters_15 (by decide) ?_
  refine g_istore_n C dX11_eaters_16 rfl (by decide) (lo2 := [(1, .int 0), (0, .ref x)]) rfl ?_
  refine g_aload_n C 1 dX11_eaters_17 rfl rfl ?_
  refine g_getR C K hLx hkx f_11_10 hb_601 dX11_eaters_18 ?_
  refine g_iconst C (v := 0) dX11_eaters_21 (by decide) ?_
  refine g_callVI C K (c_Tape_byteOf0_0 hb_601L hb_601k ((by rw [FZ b_601 hb_601L 5, hb_601k]; rfl))) hb_601L hb_601k (by decide) rfl v_11_275 rfl ⟨rfl, rfl⟩ ⟨Nat.le_of_ble_eq_true rfl, Nat.le_of_ble_eq_true rfl⟩ (Nat.le_of_ble_eq_true rfl) ⟨Nat.le_of_ble_eq_true rfl, Nat.le_of_ble_eq_true rfl⟩ dX11_eaters_22 rfl (st := []) (fun r_605 I_602 J_603 h_604 => ?_)
  obtain ⟨rfl, rfl, er_605⟩ := h_604
  have h0r_605 := er_605
  subst er_605
  refine g_istore_n C dX11_eaters_25 rfl (by decide) (lo2 := [(2, .int (-1)), (1, .int 0), (0, .ref x)]) rfl ?_
  refine g_aload_n C 2 dX11_eaters_26 rfl rfl ?_
  refine g_getR C K hLx hkx f_11_10 hb_601 dX11_eaters_27 ?_
  refine g_iconst C (v := 1) dX11_eaters_30 (by decide) ?_
  refine g_callVI C K (c_Tape_byteOf0_1 hb_601L hb_601k ((by rw [FZ b_601 hb_601L 5, hb_601k]; rfl))) hb_601L hb_601k (by decide) rfl v_11_275 rfl ⟨rfl, rfl⟩ ⟨Nat.le_of_ble_eq_true rfl, Nat.le_of_ble_eq_true rfl⟩ (Nat.le_of_ble_eq_true rfl) ⟨Nat.le_of_ble_eq_true rfl, Nat.le_of_ble_eq_true rfl⟩ dX11_eaters_31 rfl (st := []) (fun r_609 I_606 J_607 h_608 => ?_)
  obtain ⟨rfl, rfl, er_609⟩ := h_608
  have h0r_609 := er_609
  subst er_609
  refine g_istore_n C dX11_eaters_34 rfl (by decide) (lo2 := [(3, .int (-1)), (2, .int (-1)), (1, .int 0), (0, .ref x)]) rfl ?_
  refine g_aload_n C 3 dX11_eaters_35 rfl rfl ?_
  refine g_getR C K hLx hkx f_11_10 hb_601 dX11_eaters_36 ?_
  refine g_iconst C (v := 0) dX11_eaters_39 (by decide) ?_
  refine h_putI C K hb_601L hb_601k f_11_102 p_10_5 dX11_eaters_40 (fun I_610 hI_610 => ?_)
  refine g_iload_n C 2 dX11_eaters_43 rfl rfl ?_
  refine t_if_eq C (tgt := 74) (by decide) dX11_eaters_44 (by decide) ?_
  refine g_iconst C (v := (-1)) dX11_eaters_74 (by decide) ?_
  exact g_zret (ty := .int) (r := (-1)) B K rfl rfl (rfl) dX11_eaters_75
set_option maxRecDepth 100000 in
set_option maxHeartbeats 4000000 in
theorem t_surely {l : Launch} {D : va_G} {cy : Nat → ClassId} {L : List Nat} {κ ln : Nat → Nat} {R : Nat → Nat → Option Nat} {I : Nat → Nat → Int32} {J : Nat → Nat → Int64} {ow : Nat → Nat × Nat} (W9 : ∀ a ∈ L, Shp L κ ln R ow a) {x : Nat} (hLx : x ∈ L) (hkx : κ x = 11) (FZ : Fz_ L κ I) : CtI l yX11_surely cX11_surely 1 (some .int) { frames := 5, cells := 0, slots := 0, locals := 320 } D cy L κ ln R I J [.ref x] (fun r _ _ => r = -1) := by
  refine CtI.of (by decide +kernel) (Nat.le_of_ble_eq_true rfl) ?_
  intro p e s m below meth c B K
  have C := B.1
  have Z1 := fz_Z FZ 1 (by decide) (by decide) (by decide)
  have Z8 := fz_Z FZ 8 (by decide) (by decide) (by decide)
  refine g_lo (is := [0]) (lo2 := [(0, .ref x)]) rfl ?_
  refine g_aload_n C 0 dX11_surely_0 rfl rfl ?_
  obtain ⟨b_611, hb_611, hb_611L, hb_611k⟩ := shp_o (W9 x hLx) hkx 11 2 rfl (by decide)
  refine g_getR C K hLx hkx f_11_83 hb_611 dX11_surely_1 ?_
  refine g_getI C K hb_611L hb_611k f_11_282 (v := (-1)) ((by rw [FZ b_611 hb_611L 1, hb_611k]; rfl)) dX11_surely_4 ?_
  exact g_zret (ty := .int) (r := (-1)) B K rfl rfl (rfl) dX11_surely_7
set_option maxRecDepth 100000 in
set_option maxHeartbeats 4000000 in
theorem t_ask {l : Launch} {D : va_G} {cy : Nat → ClassId} {L : List Nat} {κ ln : Nat → Nat} {R : Nat → Nat → Option Nat} {I : Nat → Nat → Int32} {J : Nat → Nat → Int64} {ow : Nat → Nat × Nat} (W9 : ∀ a ∈ L, Shp L κ ln R ow a) {x : Nat} (hLx : x ∈ L) (hkx : κ x = 11) (FZ : Fz_ L κ I) : CtI l yX11_ask cX11_ask 1 (some .int) { frames := 5, cells := 0, slots := 0, locals := 320 } D cy L κ ln R I J [.ref x] (fun r _ _ => r = -1) := by
  refine CtI.of (by decide +kernel) (Nat.le_of_ble_eq_true rfl) ?_
  intro p e s m below meth c B K
  have C := B.1
  have Z1 := fz_Z FZ 1 (by decide) (by decide) (by decide)
  have Z8 := fz_Z FZ 8 (by decide) (by decide) (by decide)
  refine g_lo (is := [0]) (lo2 := [(0, .ref x)]) rfl ?_
  refine g_aload_n C 0 dX11_ask_0 rfl rfl ?_
  obtain ⟨b_612, hb_612, hb_612L, hb_612k⟩ := shp_o (W9 x hLx) hkx 11 2 rfl (by decide)
  refine g_getR C K hLx hkx f_11_83 hb_612 dX11_ask_1 ?_
  refine g_getI C K hb_612L hb_612k f_11_285 (v := (-1)) ((by rw [FZ b_612 hb_612L 2, hb_612k]; rfl)) dX11_ask_4 ?_
  exact g_zret (ty := .int) (r := (-1)) B K rfl rfl (rfl) dX11_ask_7
set_option maxRecDepth 100000 in
set_option maxHeartbeats 4000000 in
theorem t_share {l : Launch} {D : va_G} {cy : Nat → ClassId} {L : List Nat} {κ ln : Nat → Nat} {R : Nat → Nat → Option Nat} {I : Nat → Nat → Int32} {J : Nat → Nat → Int64} {ow : Nat → Nat × Nat} (W9 : ∀ a ∈ L, Shp L κ ln R ow a) {x : Nat} (hLx : x ∈ L) (hkx : κ x = 11) (FZ : Fz_ L κ I) (d : Int32) (s1 : Int32) (p1 : Int32) : CtI l yX11_share cX11_share 5 (some .int) { frames := 5, cells := 0, slots := 0, locals := 320 } D cy L κ ln R I J [.ref x, .int d, .int s1, .int p1] (fun r _ _ => r = -1) := by
  refine CtI.of (by decide +kernel) (Nat.le_of_ble_eq_true rfl) ?_
  intro p e s m below meth c B K
  have C := B.1
  have Z1 := fz_Z FZ 1 (by decide) (by decide) (by decide)
  have Z8 := fz_Z FZ 8 (by decide) (by decide) (by decide)
  refine g_lo (is := [0, 1, 2, 3]) (lo2 := [(0, .ref x), (1, .int d), (2, .int s1), (3, .int p1)]) rfl ?_
  refine g_aload_n C 0 dX11_share_0 rfl rfl ?_
  obtain ⟨b_613, hb_613, hb_613L, hb_613k⟩ := shp_o (W9 x hLx) hkx 1 8 rfl (by decide)
  refine g_getR C K hLx hkx f_11_19 hb_613 dX11_share_1 ?_
  refine g_iload_n C 1 dX11_share_4 rfl rfl ?_
  refine g_callVI C K (c_Table_hasDish hb_613L hb_613k d 0 ((by rw [FZ b_613 hb_613L 6, hb_613k]; rfl))) hb_613L hb_613k (by decide) rfl v_11_175 rfl ⟨rfl, rfl⟩ ⟨Nat.le_of_ble_eq_true rfl, Nat.le_of_ble_eq_true rfl⟩ (Nat.le_of_ble_eq_true rfl) ⟨Nat.le_of_ble_eq_true rfl, Nat.le_of_ble_eq_true rfl⟩ dX11_share_5 rfl (st := []) (fun r_617 I_614 J_615 h_616 => ?_)
  obtain ⟨rfl, rfl, er_617⟩ := h_616
  have h0r_617 := er_617
  rw [z_hp] at er_617
  subst er_617
  refine t_if_eq C (tgt := 40) (by decide) dX11_share_8 (by decide) ?_
  refine g_iconst C (v := 0) dX11_share_40 (by decide) ?_
  refine g_istore C dX11_share_41 (by decide) (lo2 := [(4, .int 0), (0, .ref x), (1, .int d), (2, .int s1), (3, .int p1)]) rfl ?_
  refine g_iload C 0 dX11_share_43 rfl ?_
  refine t_if_eq C (tgt := 56) (by decide) dX11_share_45 (by decide) ?_
  refine g_iconst C (v := (-1)) dX11_share_56 (by decide) ?_
  exact g_zret (ty := .int) (r := (-1)) B K rfl rfl (rfl) dX11_share_57
set_option maxRecDepth 100000 in
set_option maxHeartbeats 4000000 in
theorem t_last {l : Launch} {D : va_G} {cy : Nat → ClassId} {L : List Nat} {κ ln : Nat → Nat} {R : Nat → Nat → Option Nat} {I : Nat → Nat → Int32} {J : Nat → Nat → Int64} {ow : Nat → Nat × Nat} (W9 : ∀ a ∈ L, Shp L κ ln R ow a) {x : Nat} (hLx : x ∈ L) (hkx : κ x = 11) (FZ : Fz_ L κ I) (d : Int32) : CtI l yX11_last cX11_last 2 (some .int) { frames := 5, cells := 0, slots := 0, locals := 320 } D cy L κ ln R I J [.ref x, .int d] (fun r _ _ => r = -1) := by
  refine CtI.of (by decide +kernel) (Nat.le_of_ble_eq_true rfl) ?_
  intro p e s m below meth c B K
  have C := B.1
  have Z1 := fz_Z FZ 1 (by decide) (by decide) (by decide)
  have Z8 := fz_Z FZ 8 (by decide) (by decide) (by decide)
  refine g_lo (is := [0, 1]) (lo2 := [(0, .ref x), (1, .int d)]) rfl ?_
  refine g_aload_n C 0 dX11_last_0 rfl rfl ?_
  obtain ⟨b_618, hb_618, hb_618L, hb_618k⟩ := shp_o (W9 x hLx) hkx 1 8 rfl (by decide)
  refine g_getR C K hLx hkx f_11_19 hb_618 dX11_last_1 ?_
  refine g_iload_n C 1 dX11_last_4 rfl rfl ?_
  refine g_callVI C K (c_Table_hasDish hb_618L hb_618k d 0 ((by rw [FZ b_618 hb_618L 6, hb_618k]; rfl))) hb_618L hb_618k (by decide) rfl v_11_175 rfl ⟨rfl, rfl⟩ ⟨Nat.le_of_ble_eq_true rfl, Nat.le_of_ble_eq_true rfl⟩ (Nat.le_of_ble_eq_true rfl) ⟨Nat.le_of_ble_eq_true rfl, Nat.le_of_ble_eq_true rfl⟩ dX11_last_5 rfl (st := []) (fun r_622 I_619 J_620 h_621 => ?_)
  obtain ⟨rfl, rfl, er_622⟩ := h_621
  have h0r_622 := er_622
  rw [z_hp] at er_622
  subst er_622
  refine n_if_ne C (tgt := 13) (by decide) dX11_last_8 (by decide) ?_
  refine g_iconst C (v := (-1)) dX11_last_11 (by decide) ?_
  exact g_zret (ty := .int) (r := (-1)) B K rfl rfl (rfl) dX11_last_12
set_option maxRecDepth 100000 in
set_option maxHeartbeats 4000000 in
theorem t_seats {l : Launch} {D : va_G} {cy : Nat → ClassId} {L : List Nat} {κ ln : Nat → Nat} {R : Nat → Nat → Option Nat} {I : Nat → Nat → Int32} {J : Nat → Nat → Int64} {ow : Nat → Nat × Nat} (W9 : ∀ a ∈ L, Shp L κ ln R ow a) {x : Nat} (hLx : x ∈ L) (hkx : κ x = 11) (FZ : Fz_ L κ I) : CtI l yX11_seats cX11_seats 1 (some .int) { frames := 5, cells := 0, slots := 0, locals := 320 } D cy L κ ln R I J [.ref x] (fun r _ _ => r = 0) := by
  refine CtI.of (by decide +kernel) (Nat.le_of_ble_eq_true rfl) ?_
  intro p e s m below meth c B K
  have C := B.1
  have Z1 := fz_Z FZ 1 (by decide) (by decide) (by decide)
  have Z8 := fz_Z FZ 8 (by decide) (by decide) (by decide)
  refine g_lo (is := [0]) (lo2 := [(0, .ref x)]) rfl ?_
  refine g_aload_n C 0 dX11_seats_0 rfl rfl ?_
  obtain ⟨b_623, hb_623, hb_623L, hb_623k⟩ := shp_o (W9 x hLx) hkx 10 6 rfl (by decide)
  refine g_getR C K hLx hkx f_11_76 hb_623 dX11_seats_1 ?_
  refine g_aload_n C 0 dX11_seats_4 rfl rfl ?_
  obtain ⟨b_624, hb_624, hb_624L, hb_624k⟩ := shp_o (W9 x hLx) hkx 2 1 rfl (by decide)
  refine g_getR C K hLx hkx f_11_28 hb_624 dX11_seats_5 ?_
  refine g_callVI C K (c_Seat_seat0 W9 hb_623L hb_623k hb_624L hb_624k Z1 Z8) hb_623L hb_623k (by decide) rfl v_11_291 rfl ⟨rfl, rfl⟩ ⟨Nat.le_of_ble_eq_true rfl, Nat.le_of_ble_eq_true rfl⟩ (Nat.le_of_ble_eq_true rfl) ⟨Nat.le_of_ble_eq_true rfl, Nat.le_of_ble_eq_true rfl⟩ dX11_seats_8 rfl (st := []) (fun r_628 I_625 J_626 h_627 => ?_)
  obtain ⟨rfl, f_629, rfl⟩ := h_627
  exact g_zret (ty := .int) (r := 0) B K rfl rfl (rfl) dX11_seats_11
set_option maxRecDepth 100000 in
set_option maxHeartbeats 4000000 in
theorem t_left {l : Launch} {D : va_G} {cy : Nat → ClassId} {L : List Nat} {κ ln : Nat → Nat} {R : Nat → Nat → Option Nat} {I : Nat → Nat → Int32} {J : Nat → Nat → Int64} {ow : Nat → Nat × Nat} (W9 : ∀ a ∈ L, Shp L κ ln R ow a) {x : Nat} (hLx : x ∈ L) (hkx : κ x = 11) (FZ : Fz_ L κ I) (p1 : Int32) : CtI l yX11_left cX11_left 5 (some .int) { frames := 5, cells := 0, slots := 0, locals := 320 } D cy L κ ln R I J [.ref x, .int p1] (fun r _ _ => r = -1) := by
  refine CtI.of (by decide +kernel) (Nat.le_of_ble_eq_true rfl) ?_
  intro p e s m below meth c B K
  have C := B.1
  have Z1 := fz_Z FZ 1 (by decide) (by decide) (by decide)
  have Z8 := fz_Z FZ 8 (by decide) (by decide) (by decide)
  refine g_lo (is := [0, 1]) (lo2 := [(0, .ref x), (1, .int p1)]) rfl ?_
  refine g_aload_n C 0 dX11_left_0 rfl rfl ?_
  obtain ⟨b_631, hb_631, hb_631L, hb_631k⟩ := shp_o (W9 x hLx) hkx 1 8 rfl (by decide)
  refine g_getR C K hLx hkx f_11_19 hb_631 dX11_left_1 ?_
  refine g_iload_n C 1 dX11_left_4 rfl rfl ?_
  refine g_callVI C K (c_Table_hasPerson hb_631L hb_631k p1 0 ((by rw [FZ b_631 hb_631L 5, hb_631k]; rfl))) hb_631L hb_631k (by decide) rfl v_11_133 rfl ⟨rfl, rfl⟩ ⟨Nat.le_of_ble_eq_true rfl, Nat.le_of_ble_eq_true rfl⟩ (Nat.le_of_ble_eq_true rfl) ⟨Nat.le_of_ble_eq_true rfl, Nat.le_of_ble_eq_true rfl⟩ dX11_left_5 rfl (st := []) (fun r_635 I_632 J_633 h_634 => ?_)
  obtain ⟨rfl, rfl, er_635⟩ := h_634
  have h0r_635 := er_635
  rw [z_hp] at er_635
  subst er_635
  refine t_if_eq C (tgt := 38) (by decide) dX11_left_8 (by decide) ?_
  refine g_iconst C (v := 0) dX11_left_38 (by decide) ?_
  refine g_istore_n C dX11_left_39 rfl (by decide) (lo2 := [(2, .int 0), (0, .ref x), (1, .int p1)]) rfl ?_
  refine g_aload_n C 1 dX11_left_40 rfl rfl ?_
  obtain ⟨b_636, hb_636, hb_636L, hb_636k⟩ := shp_o (W9 x hLx) hkx 3 1 rfl (by decide)
  refine g_getR C K hLx hkx f_11_32 hb_636 dX11_left_41 ?_
  refine g_aload_n C 1 dX11_left_44 rfl rfl ?_
  obtain ⟨b_637, hb_637, hb_637L, hb_637k⟩ := shp_o (W9 x hLx) hkx 2 1 rfl (by decide)
  refine g_getR C K hLx hkx f_11_28 hb_637 dX11_left_45 ?_
  refine g_callVV C K (c_Course_become W9 hb_636L hb_636k hb_637L hb_637k (Z1)) hb_636L hb_636k (by decide) rfl v_11_126 rfl ⟨rfl, rfl⟩ ⟨Nat.le_of_ble_eq_true rfl, Nat.le_of_ble_eq_true rfl⟩ (Nat.le_of_ble_eq_true rfl) ⟨Nat.le_of_ble_eq_true rfl, Nat.le_of_ble_eq_true rfl⟩ dX11_left_48 rfl (st := []) (fun I_638 J_639 h_640 => ?_)
  obtain ⟨rfl, f_642, z_644⟩ := h_640
  refine g_iconst C (v := 0) dX11_left_51 (by decide) ?_
  refine g_istore_n C dX11_left_52 rfl (by decide) (lo2 := [(3, .int 0), (2, .int 0), (0, .ref x), (1, .int p1)]) rfl ?_
  refine g_iload_n C 0 dX11_left_53 rfl rfl ?_
  refine g_aload_n C 2 dX11_left_54 rfl rfl ?_
  obtain ⟨b_645, hb_645, hb_645L, hb_645k⟩ := shp_o (W9 x hLx) hkx 0 10 rfl (by decide)
  refine g_getR C K hLx hkx f_11_10 hb_645 dX11_left_55 ?_
  refine g_getI C K hb_645L hb_645k f_11_102 (v := 0) (by rw [f_642 b_645 5 (by rw [hb_645k]; decide)]; exact (by rw [FZ b_645 hb_645L 5, hb_645k]; rfl)) dX11_left_58 ?_
  refine t_icmp_ge C (tgt := 108) (by decide) dX11_left_61 (by decide) ?_
  refine g_aload_n C 2 dX11_left_108 rfl rfl ?_
  refine g_getR C K hLx hkx f_11_10 hb_645 dX11_left_109 ?_
  refine g_iconst C (v := 0) dX11_left_112 (by decide) ?_
  refine h_putI C K hb_645L hb_645k f_11_102 p_10_5 dX11_left_113 (fun I_646 hI_646 => ?_)
  refine g_iload_n C 1 dX11_left_116 rfl rfl ?_
  refine t_if_eq C (tgt := 132) (by decide) dX11_left_117 (by decide) ?_
  refine g_iconst C (v := (-1)) dX11_left_132 (by decide) ?_
  exact g_zret (ty := .int) (r := (-1)) B K rfl rfl (rfl) dX11_left_133
set_option maxRecDepth 100000 in
set_option maxHeartbeats 4000000 in
theorem t_kin {l : Launch} {D : va_G} {cy : Nat → ClassId} {L : List Nat} {κ ln : Nat → Nat} {R : Nat → Nat → Option Nat} {I : Nat → Nat → Int32} {J : Nat → Nat → Int64} {ow : Nat → Nat × Nat} (W9 : ∀ a ∈ L, Shp L κ ln R ow a) {x : Nat} (hLx : x ∈ L) (hkx : κ x = 11) (FZ : Fz_ L κ I) (p1 : Int32) (q : Int32) : CtI l yX11_kin cX11_kin 3 (some .int) { frames := 5, cells := 0, slots := 0, locals := 320 } D cy L κ ln R I J [.ref x, .int p1, .int q] (fun r _ _ => r = -1) := by
  refine CtI.of (by decide +kernel) (Nat.le_of_ble_eq_true rfl) ?_
  intro p e s m below meth c B K
  have C := B.1
  have Z1 := fz_Z FZ 1 (by decide) (by decide) (by decide)
  have Z8 := fz_Z FZ 8 (by decide) (by decide) (by decide)
  refine g_lo (is := [0, 1, 2]) (lo2 := [(0, .ref x), (1, .int p1), (2, .int q)]) rfl ?_
  refine g_aload_n C 0 dX11_kin_0 rfl rfl ?_
  obtain ⟨b_647, hb_647, hb_647L, hb_647k⟩ := shp_o (W9 x hLx) hkx 1 8 rfl (by decide)
  refine g_getR C K hLx hkx f_11_19 hb_647 dX11_kin_1 ?_
  refine g_iload_n C 1 dX11_kin_4 rfl rfl ?_
  refine g_callVI C K (c_Table_hasPerson hb_647L hb_647k p1 0 ((by rw [FZ b_647 hb_647L 5, hb_647k]; rfl))) hb_647L hb_647k (by decide) rfl v_11_133 rfl ⟨rfl, rfl⟩ ⟨Nat.le_of_ble_eq_true rfl, Nat.le_of_ble_eq_true rfl⟩ (Nat.le_of_ble_eq_true rfl) ⟨Nat.le_of_ble_eq_true rfl, Nat.le_of_ble_eq_true rfl⟩ dX11_kin_5 rfl (st := []) (fun r_651 I_648 J_649 h_650 => ?_)
  obtain ⟨rfl, rfl, er_651⟩ := h_650
  have h0r_651 := er_651
  rw [z_hp] at er_651
  subst er_651
  refine t_if_eq C (tgt := 34) (by decide) dX11_kin_8 (by decide) ?_
  refine g_iconst C (v := (-1)) dX11_kin_34 (by decide) ?_
  exact g_zret (ty := .int) (r := (-1)) B K rfl rfl (rfl) dX11_kin_35
set_option maxRecDepth 100000 in
set_option maxHeartbeats 4000000 in
theorem t_hungriest {l : Launch} {D : va_G} {cy : Nat → ClassId} {L : List Nat} {κ ln : Nat → Nat} {R : Nat → Nat → Option Nat} {I : Nat → Nat → Int32} {J : Nat → Nat → Int64} {ow : Nat → Nat × Nat} (W9 : ∀ a ∈ L, Shp L κ ln R ow a) {x : Nat} (hLx : x ∈ L) (hkx : κ x = 11) (FZ : Fz_ L κ I) : CtI l yX11_hungriest cX11_hungriest 3 (some .int) { frames := 5, cells := 0, slots := 0, locals := 320 } D cy L κ ln R I J [.ref x] (fun r _ _ => r = -1) := by
  refine CtI.of (by decide +kernel) (Nat.le_of_ble_eq_true rfl) ?_
  intro p e s m below meth c B K
  have C := B.1
  have Z1 := fz_Z FZ 1 (by decide) (by decide) (by decide)
  have Z8 := fz_Z FZ 8 (by decide) (by decide) (by decide)
  refine g_lo (is := [0]) (lo2 := [(0, .ref x)]) rfl ?_
  refine g_iconst C (v := (-1)) dX11_hungriest_0 (by decide) ?_
  refine g_istore_n C dX11_hungriest_1 rfl (by decide) (lo2 := [(1, .int (-1)), (0, .ref x)]) rfl ?_
  refine g_iconst C (v := 0) dX11_hungriest_2 (by decide) ?_
  refine g_istore_n C dX11_hungriest_3 rfl (by decide) (lo2 := [(2, .int 0), (1, .int (-1)), (0, .ref x)]) rfl ?_
  refine g_iload_n C 0 dX11_hungriest_4 rfl rfl ?_
  refine g_aload_n C 2 dX11_hungriest_5 rfl rfl ?_
  obtain ⟨b_652, hb_652, hb_652L, hb_652k⟩ := shp_o (W9 x hLx) hkx 1 8 rfl (by decide)
  refine g_getR C K hLx hkx f_11_19 hb_652 dX11_hungriest_6 ?_
  refine g_getI C K hb_652L hb_652k f_11_213 (v := 0) ((by rw [FZ b_652 hb_652L 5, hb_652k]; rfl)) dX11_hungriest_9 ?_
  refine t_icmp_ge C (tgt := 60) (by decide) dX11_hungriest_12 (by decide) ?_
  refine g_iload_n C 1 dX11_hungriest_60 rfl rfl ?_
  exact g_zret (ty := .int) (r := (-1)) B K rfl rfl (rfl) dX11_hungriest_61
set_option maxRecDepth 100000 in
set_option maxHeartbeats 4000000 in
theorem t_odds {l : Launch} {D : va_G} {cy : Nat → ClassId} {L : List Nat} {κ ln : Nat → Nat} {R : Nat → Nat → Option Nat} {I : Nat → Nat → Int32} {J : Nat → Nat → Int64} {ow : Nat → Nat × Nat} (W9 : ∀ a ∈ L, Shp L κ ln R ow a) {x : Nat} (hLx : x ∈ L) (hkx : κ x = 11) (FZ : Fz_ L κ I) (p1 : Int32) (n : Int32) (s1 : Int32) : CtI l yX11_odds cX11_odds 6 (some .int) { frames := 5, cells := 0, slots := 0, locals := 320 } D cy L κ ln R I J [.ref x, .int p1, .int n, .int s1] (fun r _ _ => r = -1) := by
  refine CtI.of (by decide +kernel) (Nat.le_of_ble_eq_true rfl) ?_
  intro p e s m below meth c B K
  have C := B.1
  have Z1 := fz_Z FZ 1 (by decide) (by decide) (by decide)
  have Z8 := fz_Z FZ 8 (by decide) (by decide) (by decide)
  refine g_lo (is := [0, 1, 2, 3]) (lo2 := [(0, .ref x), (1, .int p1), (2, .int n), (3, .int s1)]) rfl ?_
  refine g_aload_n C 0 dX11_odds_0 rfl rfl ?_
  obtain ⟨b_653, hb_653, hb_653L, hb_653k⟩ := shp_o (W9 x hLx) hkx 1 8 rfl (by decide)
  refine g_getR C K hLx hkx f_11_19 hb_653 dX11_odds_1 ?_
  refine g_iload_n C 1 dX11_odds_4 rfl rfl ?_
  refine g_callVI C K (c_Table_hasPerson hb_653L hb_653k p1 0 ((by rw [FZ b_653 hb_653L 5, hb_653k]; rfl))) hb_653L hb_653k (by decide) rfl v_11_133 rfl ⟨rfl, rfl⟩ ⟨Nat.le_of_ble_eq_true rfl, Nat.le_of_ble_eq_true rfl⟩ (Nat.le_of_ble_eq_true rfl) ⟨Nat.le_of_ble_eq_true rfl, Nat.le_of_ble_eq_true rfl⟩ dX11_odds_5 rfl (st := []) (fun r_657 I_654 J_655 h_656 => ?_)
  obtain ⟨rfl, rfl, er_657⟩ := h_656
  have h0r_657 := er_657
  rw [z_hp] at er_657
  subst er_657
  refine t_if_eq C (tgt := 22) (by decide) dX11_odds_8 (by decide) ?_
  refine g_iconst C (v := (-1)) dX11_odds_22 (by decide) ?_
  exact g_zret (ty := .int) (r := (-1)) B K rfl rfl (rfl) dX11_odds_23
set_option maxRecDepth 100000 in
set_option maxHeartbeats 4000000 in
theorem t_drawn {l : Launch} {D : va_G} {cy : Nat → ClassId} {L : List Nat} {κ ln : Nat → Nat} {R : Nat → Nat → Option Nat} {I : Nat → Nat → Int32} {J : Nat → Nat → Int64} {ow : Nat → Nat × Nat} (W9 : ∀ a ∈ L, Shp L κ ln R ow a) {x : Nat} (hLx : x ∈ L) (hkx : κ x = 11) (FZ : Fz_ L κ I) (n : Int32) (s1 : Int32) : CtI l yX11_drawn cX11_drawn 3 (some .int) { frames := 5, cells := 0, slots := 0, locals := 320 } D cy L κ ln R I J [.ref x, .int n, .int s1] (fun r _ _ => r = -1) := by
  refine CtI.of (by decide +kernel) (Nat.le_of_ble_eq_true rfl) ?_
  intro p e s m below meth c B K
  have C := B.1
  have Z1 := fz_Z FZ 1 (by decide) (by decide) (by decide)
  have Z8 := fz_Z FZ 8 (by decide) (by decide) (by decide)
  refine g_lo (is := [0, 1, 2]) (lo2 := [(0, .ref x), (1, .int n), (2, .int s1)]) rfl ?_
  refine g_iload_n C 1 dX11_drawn_0 rfl rfl ?_
  refine g_iconst C (v := 1) dX11_drawn_1 (by decide) ?_
  refine g_icmp_lt C (tgt := 21) dX11_drawn_2 (by decide) (fun h_658 => ?_) (fun h_658 => ?_)
  · skip
    refine g_iconst C (v := (-1)) dX11_drawn_21 (by decide) ?_
    exact g_zret (ty := .int) (r := (-1)) B K rfl rfl (rfl) dX11_drawn_22
  · skip
    refine g_iload_n C 1 dX11_drawn_5 rfl rfl ?_
    refine g_bipush C (v := 60) dX11_drawn_6 (by decide) ?_
    refine g_icmp_gt C (tgt := 21) dX11_drawn_8 (by decide) (fun h_659 => ?_) (fun h_659 => ?_)
    · skip
      refine g_iconst C (v := (-1)) dX11_drawn_21 (by decide) ?_
      exact g_zret (ty := .int) (r := (-1)) B K rfl rfl (rfl) dX11_drawn_22
    · skip
      refine g_aload_n C 0 dX11_drawn_11 rfl rfl ?_
      obtain ⟨b_660, hb_660, hb_660L, hb_660k⟩ := shp_o (W9 x hLx) hkx 1 8 rfl (by decide)
      refine g_getR C K hLx hkx f_11_19 hb_660 dX11_drawn_12 ?_
      refine g_getI C K hb_660L hb_660k f_11_213 (v := 0) ((by rw [FZ b_660 hb_660L 5, hb_660k]; rfl)) dX11_drawn_15 ?_
      refine n_if_ne C (tgt := 23) (by decide) dX11_drawn_18 (by decide) ?_
      refine g_iconst C (v := (-1)) dX11_drawn_21 (by decide) ?_
      exact g_zret (ty := .int) (r := (-1)) B K rfl rfl (rfl) dX11_drawn_22
set_option maxRecDepth 100000 in
set_option maxHeartbeats 4000000 in
theorem t_told {l : Launch} {D : va_G} {cy : Nat → ClassId} {L : List Nat} {κ ln : Nat → Nat} {R : Nat → Nat → Option Nat} {I : Nat → Nat → Int32} {J : Nat → Nat → Int64} {ow : Nat → Nat × Nat} (W9 : ∀ a ∈ L, Shp L κ ln R ow a) {x : Nat} (hLx : x ∈ L) (hkx : κ x = 11) (FZ : Fz_ L κ I) (w : Int32) : CtI l yX11_told cX11_told 2 (some .int) { frames := 5, cells := 0, slots := 0, locals := 320 } D cy L κ ln R I J [.ref x, .int w] (fun r _ _ => r = -1) := by
  refine CtI.of (by decide +kernel) (Nat.le_of_ble_eq_true rfl) ?_
  intro p e s m below meth c B K
  have C := B.1
  have Z1 := fz_Z FZ 1 (by decide) (by decide) (by decide)
  have Z8 := fz_Z FZ 8 (by decide) (by decide) (by decide)
  refine g_lo (is := [0, 1]) (lo2 := [(0, .ref x), (1, .int w)]) rfl ?_
  refine g_aload_n C 0 dX11_told_0 rfl rfl ?_
  obtain ⟨b_661, hb_661, hb_661L, hb_661k⟩ := shp_o (W9 x hLx) hkx 6 0 rfl (by decide)
  refine g_getR C K hLx hkx f_11_52 hb_661 dX11_told_1 ?_
  refine g_getI C K hb_661L hb_661k f_11_352 (v := 0) ((by rw [FZ b_661 hb_661L 5, hb_661k]; rfl)) dX11_told_4 ?_
  refine n_if_ne C (tgt := 12) (by decide) dX11_told_7 (by decide) ?_
  refine g_iconst C (v := (-1)) dX11_told_10 (by decide) ?_
  exact g_zret (ty := .int) (r := (-1)) B K rfl rfl (rfl) dX11_told_11
set_option maxRecDepth 100000 in
set_option maxHeartbeats 4000000 in
theorem t_said {l : Launch} {D : va_G} {cy : Nat → ClassId} {L : List Nat} {κ ln : Nat → Nat} {R : Nat → Nat → Option Nat} {I : Nat → Nat → Int32} {J : Nat → Nat → Int64} {ow : Nat → Nat × Nat} (W9 : ∀ a ∈ L, Shp L κ ln R ow a) {x : Nat} (hLx : x ∈ L) (hkx : κ x = 11) (FZ : Fz_ L κ I) (k : Int32) : CtI l yX11_said cX11_said 5 (some .int) { frames := 5, cells := 0, slots := 0, locals := 320 } D cy L κ ln R I J [.ref x, .int k] (fun r _ _ => r = -1) := by
  refine CtI.of (by decide +kernel) (Nat.le_of_ble_eq_true rfl) ?_
  intro p e s m below meth c B K
  have C := B.1
  have Z1 := fz_Z FZ 1 (by decide) (by decide) (by decide)
  have Z8 := fz_Z FZ 8 (by decide) (by decide) (by decide)
  refine g_lo (is := [0, 1]) (lo2 := [(0, .ref x), (1, .int k)]) rfl ?_
  refine g_aload_n C 0 dX11_said_0 rfl rfl ?_
  obtain ⟨b_662, hb_662, hb_662L, hb_662k⟩ := shp_o (W9 x hLx) hkx 7 7 rfl (by decide)
  refine g_getR C K hLx hkx f_11_59 hb_662 dX11_said_1 ?_
  refine g_getI C K hb_662L hb_662k f_11_368 (v := 0) ((by rw [FZ b_662 hb_662L 5, hb_662k]; rfl)) dX11_said_4 ?_
  refine n_if_ne C (tgt := 12) (by decide) dX11_said_7 (by decide) ?_
  refine g_iconst C (v := (-1)) dX11_said_10 (by decide) ?_
  exact g_zret (ty := .int) (r := (-1)) B K rfl rfl (rfl) dX11_said_11
set_option maxRecDepth 100000 in
set_option maxHeartbeats 4000000 in
theorem t_count {l : Launch} {D : va_G} {cy : Nat → ClassId} {L : List Nat} {κ ln : Nat → Nat} {R : Nat → Nat → Option Nat} {I : Nat → Nat → Int32} {J : Nat → Nat → Int64} {ow : Nat → Nat × Nat} (W9 : ∀ a ∈ L, Shp L κ ln R ow a) {x : Nat} (hLx : x ∈ L) (hkx : κ x = 11) (FZ : Fz_ L κ I) (w : Int32) : CtI l yX11_count cX11_count 2 (some .int) { frames := 5, cells := 0, slots := 0, locals := 320 } D cy L κ ln R I J [.ref x, .int w] (fun r _ _ => r = if 0 ≤ w ∧ w ≤ 4 then 0 else -1) := by
  refine CtI.of (by decide +kernel) (Nat.le_of_ble_eq_true rfl) ?_
  intro p e s m below meth c B K
  have C := B.1
  have Z1 := fz_Z FZ 1 (by decide) (by decide) (by decide)
  have Z8 := fz_Z FZ 8 (by decide) (by decide) (by decide)
  refine g_lo (is := [0, 1]) (lo2 := [(0, .ref x), (1, .int w)]) rfl ?_
  refine g_iload_n C 1 dX11_count_0 rfl rfl ?_
  rcases pk_ix w (n := 5) (by decide) with hsw | hsw | ⟨i_663, hi_664, rfl⟩
  · skip
    refine g_tableOut C (tgt := 76) dX11_count_1 (Or.inl (sw_lt hsw)) (by decide) ?_
    refine g_iconst C (v := (-1)) dX11_count_76 (by decide) ?_
    exact g_zret (ty := .int) (r := (-1)) B K rfl rfl (p_lo hsw) dX11_count_77
  · skip
    refine g_tableOut C (tgt := 76) dX11_count_1 (Or.inr (sw_ge hsw (by decide))) (by decide) ?_
    refine g_iconst C (v := (-1)) dX11_count_76 (by decide) ?_
    exact g_zret (ty := .int) (r := (-1)) B K rfl rfl (p_hi' hsw (by decide)) dX11_count_77
  · rcases (show i_663 = 0 ∨ i_663 = 1 ∨ i_663 = 2 ∨ i_663 = 3 ∨ i_663 = 4 by omega) with rfl | rfl | rfl | rfl | rfl
    · skip
      refine g_tableIn C (tgt := 36) dX11_count_1 (by decide) (by decide) (off := 35) (by decide) (by decide) ?_
      refine g_aload_n C 0 dX11_count_36 rfl rfl ?_
      obtain ⟨b_665, hb_665, hb_665L, hb_665k⟩ := shp_o (W9 x hLx) hkx 1 8 rfl (by decide)
      refine g_getR C K hLx hkx f_11_19 hb_665 dX11_count_37 ?_
      refine g_getI C K hb_665L hb_665k f_11_213 (v := 0) ((by rw [FZ b_665 hb_665L 5, hb_665k]; rfl)) dX11_count_40 ?_
      exact g_zret (ty := .int) (r := 0) B K rfl rfl (by decide) dX11_count_43
    · skip
      refine g_tableIn C (tgt := 44) dX11_count_1 (by decide) (by decide) (off := 43) (by decide) (by decide) ?_
      refine g_aload_n C 0 dX11_count_44 rfl rfl ?_
      obtain ⟨b_666, hb_666, hb_666L, hb_666k⟩ := shp_o (W9 x hLx) hkx 1 8 rfl (by decide)
      refine g_getR C K hLx hkx f_11_19 hb_666 dX11_count_45 ?_
      refine g_getI C K hb_666L hb_666k f_11_216 (v := 0) ((by rw [FZ b_666 hb_666L 6, hb_666k]; rfl)) dX11_count_48 ?_
      exact g_zret (ty := .int) (r := 0) B K rfl rfl (by decide) dX11_count_51
    · skip
      refine g_tableIn C (tgt := 52) dX11_count_1 (by decide) (by decide) (off := 51) (by decide) (by decide) ?_
      refine g_aload_n C 0 dX11_count_52 rfl rfl ?_
      obtain ⟨b_667, hb_667, hb_667L, hb_667k⟩ := shp_o (W9 x hLx) hkx 1 8 rfl (by decide)
      refine g_getR C K hLx hkx f_11_19 hb_667 dX11_count_53 ?_
      refine g_getI C K hb_667L hb_667k f_11_219 (v := 0) ((by rw [FZ b_667 hb_667L 7, hb_667k]; rfl)) dX11_count_56 ?_
      exact g_zret (ty := .int) (r := 0) B K rfl rfl (by decide) dX11_count_59
    · skip
      refine g_tableIn C (tgt := 60) dX11_count_1 (by decide) (by decide) (off := 59) (by decide) (by decide) ?_
      refine g_aload_n C 0 dX11_count_60 rfl rfl ?_
      obtain ⟨b_668, hb_668, hb_668L, hb_668k⟩ := shp_o (W9 x hLx) hkx 1 8 rfl (by decide)
      refine g_getR C K hLx hkx f_11_19 hb_668 dX11_count_61 ?_
      refine g_getI C K hb_668L hb_668k f_11_222 (v := 0) ((by rw [FZ b_668 hb_668L 8, hb_668k]; rfl)) dX11_count_64 ?_
      exact g_zret (ty := .int) (r := 0) B K rfl rfl (by decide) dX11_count_67
    · skip
      refine g_tableIn C (tgt := 68) dX11_count_1 (by decide) (by decide) (off := 67) (by decide) (by decide) ?_
      refine g_aload_n C 0 dX11_count_68 rfl rfl ?_
      obtain ⟨b_669, hb_669, hb_669L, hb_669k⟩ := shp_o (W9 x hLx) hkx 0 10 rfl (by decide)
      refine g_getR C K hLx hkx f_11_10 hb_669 dX11_count_69 ?_
      refine g_getI C K hb_669L hb_669k f_11_102 (v := 0) ((by rw [FZ b_669 hb_669L 5, hb_669k]; rfl)) dX11_count_72 ?_
      exact g_zret (ty := .int) (r := 0) B K rfl rfl (by decide) dX11_count_75
end
section
theorem dX11_book_0 : decode cX11_book 0 = .ok (.iload_n 1, 1) := by decide +kernel
theorem dX11_book_1 : decode cX11_book 1 = .ok (.ifCond .eq 12, 3) := by decide +kernel
theorem dX11_book_4 : decode cX11_book 4 = .ok (.iload_n 1, 1) := by decide +kernel
theorem dX11_book_5 : decode cX11_book 5 = .ok (.iconst 1, 1) := by decide +kernel
theorem dX11_book_6 : decode cX11_book 6 = .ok (.if_icmp .eq 7, 3) := by decide +kernel
theorem dX11_book_9 : decode cX11_book 9 = .ok (.sipush (-1000), 3) := by decide +kernel
theorem dX11_book_12 : decode cX11_book 12 = .ok (.ireturn, 1) := by decide +kernel
theorem dX11_book_13 : decode cX11_book 13 = .ok (.aload_n 0, 1) := by decide +kernel
theorem dX11_book_14 : decode cX11_book 14 = .ok (.getfield 52, 3) := by decide +kernel
theorem dX11_book_17 : decode cX11_book 17 = .ok (.aload_n 0, 1) := by decide +kernel
theorem dX11_book_18 : decode cX11_book 18 = .ok (.getfield 10, 3) := by decide +kernel
theorem dX11_book_21 : decode cX11_book 21 = .ok (.aload_n 0, 1) := by decide +kernel
theorem dX11_book_22 : decode cX11_book 22 = .ok (.getfield 19, 3) := by decide +kernel
theorem dX11_book_25 : decode cX11_book 25 = .ok (.invokevirtual 340, 3) := by decide +kernel
theorem dX11_book_28 : decode cX11_book 28 = .ok (.aload_n 0, 1) := by decide +kernel
theorem dX11_book_29 : decode cX11_book 29 = .ok (.getfield 10, 3) := by decide +kernel
theorem dX11_book_32 : decode cX11_book 32 = .ok (.iconst 0, 1) := by decide +kernel
theorem dX11_book_33 : decode cX11_book 33 = .ok (.putfield 102, 3) := by decide +kernel
theorem dX11_book_36 : decode cX11_book 36 = .ok (.aload_n 0, 1) := by decide +kernel
theorem dX11_book_37 : decode cX11_book 37 = .ok (.getfield 10, 3) := by decide +kernel
theorem dX11_book_40 : decode cX11_book 40 = .ok (.getfield 113, 3) := by decide +kernel
theorem dX11_book_43 : decode cX11_book 43 = .ok (.ifCond .eq 14, 3) := by decide +kernel
theorem dX11_book_57 : decode cX11_book 57 = .ok (.aload_n 0, 1) := by decide +kernel
theorem dX11_book_58 : decode cX11_book 58 = .ok (.getfield 32, 3) := by decide +kernel
theorem dX11_book_61 : decode cX11_book 61 = .ok (.aload_n 0, 1) := by decide +kernel
theorem dX11_book_62 : decode cX11_book 62 = .ok (.getfield 28, 3) := by decide +kernel
theorem dX11_book_65 : decode cX11_book 65 = .ok (.invokevirtual 126, 3) := by decide +kernel
theorem dX11_book_68 : decode cX11_book 68 = .ok (.aload_n 0, 1) := by decide +kernel
theorem dX11_book_69 : decode cX11_book 69 = .ok (.getfield 52, 3) := by decide +kernel
theorem dX11_book_72 : decode cX11_book 72 = .ok (.aload_n 0, 1) := by decide +kernel
theorem dX11_book_73 : decode cX11_book 73 = .ok (.getfield 32, 3) := by decide +kernel
theorem dX11_book_76 : decode cX11_book 76 = .ok (.invokevirtual 343, 3) := by decide +kernel
theorem dX11_book_79 : decode cX11_book 79 = .ok (.iload_n 1, 1) := by decide +kernel
theorem dX11_book_80 : decode cX11_book 80 = .ok (.iconst 1, 1) := by decide +kernel
theorem dX11_book_81 : decode cX11_book 81 = .ok (.if_icmp .ne 32, 3) := by decide +kernel
theorem dX11_book_84 : decode cX11_book 84 = .ok (.aload_n 0, 1) := by decide +kernel
theorem dX11_book_85 : decode cX11_book 85 = .ok (.getfield 38, 3) := by decide +kernel
theorem dX11_book_88 : decode cX11_book 88 = .ok (.aload_n 0, 1) := by decide +kernel
theorem dX11_book_89 : decode cX11_book 89 = .ok (.getfield 28, 3) := by decide +kernel
theorem dX11_book_92 : decode cX11_book 92 = .ok (.invokevirtual 225, 3) := by decide +kernel
theorem dX11_book_95 : decode cX11_book 95 = .ok (.aload_n 0, 1) := by decide +kernel
theorem dX11_book_96 : decode cX11_book 96 = .ok (.getfield 38, 3) := by decide +kernel
theorem dX11_book_99 : decode cX11_book 99 = .ok (.invokevirtual 260, 3) := by decide +kernel
theorem dX11_book_102 : decode cX11_book 102 = .ok (.aload_n 0, 1) := by decide +kernel
theorem dX11_book_103 : decode cX11_book 103 = .ok (.getfield 28, 3) := by decide +kernel
theorem dX11_book_106 : decode cX11_book 106 = .ok (.aload_n 0, 1) := by decide +kernel
theorem dX11_book_107 : decode cX11_book 107 = .ok (.getfield 32, 3) := by decide +kernel
theorem dX11_book_110 : decode cX11_book 110 = .ok (.invokevirtual 126, 3) := by decide +kernel
theorem dX11_book_113 : decode cX11_book 113 = .ok (.aload_n 0, 1) := by decide +kernel
theorem dX11_book_114 : decode cX11_book 114 = .ok (.getfield 52, 3) := by decide +kernel
theorem dX11_book_117 : decode cX11_book 117 = .ok (.getfield 346, 3) := by decide +kernel
theorem dX11_book_120 : decode cX11_book 120 = .ok (.ifCond .ne 7, 3) := by decide +kernel
theorem dX11_book_123 : decode cX11_book 123 = .ok (.iconst (-1), 1) := by decide +kernel
theorem dX11_book_124 : decode cX11_book 124 = .ok (.goto 10, 3) := by decide +kernel
theorem dX11_book_134 : decode cX11_book 134 = .ok (.ireturn, 1) := by decide +kernel
theorem dX11_image_0 : decode cX11_image 0 = .ok (.iload_n 1, 1) := by decide +kernel
theorem dX11_image_1 : decode cX11_image 1 = .ok (.ifCond .lt 8, 3) := by decide +kernel
theorem dX11_image_4 : decode cX11_image 4 = .ok (.iload_n 1, 1) := by decide +kernel
theorem dX11_image_5 : decode cX11_image 5 = .ok (.iconst 2, 1) := by decide +kernel
theorem dX11_image_6 : decode cX11_image 6 = .ok (.if_icmp .lt 5, 3) := by decide +kernel
theorem dX11_image_9 : decode cX11_image 9 = .ok (.iconst 0, 1) := by decide +kernel
theorem dX11_image_10 : decode cX11_image 10 = .ok (.ireturn, 1) := by decide +kernel
theorem dX11_image_11 : decode cX11_image 11 = .ok (.aload_n 0, 1) := by decide +kernel
theorem dX11_image_12 : decode cX11_image 12 = .ok (.getfield 89, 3) := by decide +kernel
theorem dX11_image_15 : decode cX11_image 15 = .ok (.iload_n 1, 1) := by decide +kernel
theorem dX11_image_16 : decode cX11_image 16 = .ok (.aaload, 1) := by decide +kernel
theorem dX11_image_17 : decode cX11_image 17 = .ok (.aload_n 0, 1) := by decide +kernel
theorem dX11_image_18 : decode cX11_image 18 = .ok (.getfield 19, 3) := by decide +kernel
theorem dX11_image_21 : decode cX11_image 21 = .ok (.aload_n 0, 1) := by decide +kernel
theorem dX11_image_22 : decode cX11_image 22 = .ok (.getfield 28, 3) := by decide +kernel
theorem dX11_image_25 : decode cX11_image 25 = .ok (.aload_n 0, 1) := by decide +kernel
theorem dX11_image_26 : decode cX11_image 26 = .ok (.getfield 59, 3) := by decide +kernel
theorem dX11_image_29 : decode cX11_image 29 = .ok (.invokevirtual 379, 3) := by decide +kernel
theorem dX11_image_32 : decode cX11_image 32 = .ok (.iconst 1, 1) := by decide +kernel
theorem dX11_image_33 : decode cX11_image 33 = .ok (.ireturn, 1) := by decide +kernel
theorem dX11_keptIfAny_0 : decode cX11_keptIfAny 0 = .ok (.iload_n 1, 1) := by decide +kernel
theorem dX11_keptIfAny_1 : decode cX11_keptIfAny 1 = .ok (.ifCond .le 10, 3) := by decide +kernel
theorem dX11_keptIfAny_4 : decode cX11_keptIfAny 4 = .ok (.aload_n 0, 1) := by decide +kernel
theorem dX11_keptIfAny_5 : decode cX11_keptIfAny 5 = .ok (.getfield 38, 3) := by decide +kernel
theorem dX11_keptIfAny_8 : decode cX11_keptIfAny 8 = .ok (.invokevirtual 260, 3) := by decide +kernel
theorem dX11_keptIfAny_11 : decode cX11_keptIfAny 11 = .ok (.iload_n 1, 1) := by decide +kernel
theorem dX11_keptIfAny_12 : decode cX11_keptIfAny 12 = .ok (.ireturn, 1) := by decide +kernel
theorem dX11_meals_0 : decode cX11_meals 0 = .ok (.iload_n 1, 1) := by decide +kernel
theorem dX11_meals_1 : decode cX11_meals 1 = .ok (.iconst 1, 1) := by decide +kernel
theorem dX11_meals_2 : decode cX11_meals 2 = .ok (.if_icmp .lt 9, 3) := by decide +kernel
theorem dX11_meals_5 : decode cX11_meals 5 = .ok (.iload_n 1, 1) := by decide +kernel
theorem dX11_meals_6 : decode cX11_meals 6 = .ok (.bipush 60, 2) := by decide +kernel
theorem dX11_meals_8 : decode cX11_meals 8 = .ok (.if_icmp .le 5, 3) := by decide +kernel
theorem dX11_meals_11 : decode cX11_meals 11 = .ok (.iconst (-1), 1) := by decide +kernel
theorem dX11_meals_12 : decode cX11_meals 12 = .ok (.ireturn, 1) := by decide +kernel
theorem dX11_meals_13 : decode cX11_meals 13 = .ok (.aload_n 0, 1) := by decide +kernel
theorem dX11_meals_14 : decode cX11_meals 14 = .ok (.getfield 38, 3) := by decide +kernel
theorem dX11_meals_17 : decode cX11_meals 17 = .ok (.aload_n 0, 1) := by decide +kernel
theorem dX11_meals_18 : decode cX11_meals 18 = .ok (.getfield 28, 3) := by decide +kernel
theorem dX11_meals_21 : decode cX11_meals 21 = .ok (.invokevirtual 225, 3) := by decide +kernel
theorem dX11_meals_24 : decode cX11_meals 24 = .ok (.aload_n 0, 1) := by decide +kernel
theorem dX11_meals_25 : decode cX11_meals 25 = .ok (.aload_n 0, 1) := by decide +kernel
theorem dX11_meals_26 : decode cX11_meals 26 = .ok (.getfield 28, 3) := by decide +kernel
theorem dX11_meals_29 : decode cX11_meals 29 = .ok (.iload_n 1, 1) := by decide +kernel
theorem dX11_meals_30 : decode cX11_meals 30 = .ok (.invokevirtual 250, 3) := by decide +kernel
theorem dX11_meals_33 : decode cX11_meals 33 = .ok (.invokevirtual 253, 3) := by decide +kernel
theorem dX11_meals_36 : decode cX11_meals 36 = .ok (.ireturn, 1) := by decide +kernel
theorem dX11_restore_0 : decode cX11_restore 0 = .ok (.iload_n 1, 1) := by decide +kernel
theorem dX11_restore_1 : decode cX11_restore 1 = .ok (.ifCond .lt 20, 3) := by decide +kernel
theorem dX11_restore_4 : decode cX11_restore 4 = .ok (.iload_n 1, 1) := by decide +kernel
theorem dX11_restore_5 : decode cX11_restore 5 = .ok (.iconst 2, 1) := by decide +kernel
theorem dX11_restore_6 : decode cX11_restore 6 = .ok (.if_icmp .ge 15, 3) := by decide +kernel
theorem dX11_restore_9 : decode cX11_restore 9 = .ok (.aload_n 0, 1) := by decide +kernel
theorem dX11_restore_10 : decode cX11_restore 10 = .ok (.getfield 89, 3) := by decide +kernel
theorem dX11_restore_13 : decode cX11_restore 13 = .ok (.iload_n 1, 1) := by decide +kernel
theorem dX11_restore_14 : decode cX11_restore 14 = .ok (.aaload, 1) := by decide +kernel
theorem dX11_restore_15 : decode cX11_restore 15 = .ok (.getfield 383, 3) := by decide +kernel
theorem dX11_restore_18 : decode cX11_restore 18 = .ok (.ifCond .ne 5, 3) := by decide +kernel
theorem dX11_restore_21 : decode cX11_restore 21 = .ok (.iconst 0, 1) := by decide +kernel
theorem dX11_restore_22 : decode cX11_restore 22 = .ok (.ireturn, 1) := by decide +kernel
theorem dX11_sentence_0 : decode cX11_sentence 0 = .ok (.aload_n 0, 1) := by decide +kernel
theorem dX11_sentence_1 : decode cX11_sentence 1 = .ok (.getfield 63, 3) := by decide +kernel
theorem dX11_sentence_4 : decode cX11_sentence 4 = .ok (.aload_n 0, 1) := by decide +kernel
theorem dX11_sentence_5 : decode cX11_sentence 5 = .ok (.getfield 10, 3) := by decide +kernel
theorem dX11_sentence_8 : decode cX11_sentence 8 = .ok (.aload_n 0, 1) := by decide +kernel
theorem dX11_sentence_9 : decode cX11_sentence 9 = .ok (.getfield 19, 3) := by decide +kernel
theorem dX11_sentence_12 : decode cX11_sentence 12 = .ok (.invokevirtual 362, 3) := by decide +kernel
theorem dX11_sentence_15 : decode cX11_sentence 15 = .ok (.pop, 1) := by decide +kernel
theorem dX11_sentence_16 : decode cX11_sentence 16 = .ok (.aload_n 0, 1) := by decide +kernel
theorem dX11_sentence_17 : decode cX11_sentence 17 = .ok (.getfield 10, 3) := by decide +kernel
theorem dX11_sentence_20 : decode cX11_sentence 20 = .ok (.iconst 0, 1) := by decide +kernel
theorem dX11_sentence_21 : decode cX11_sentence 21 = .ok (.putfield 102, 3) := by decide +kernel
theorem dX11_sentence_24 : decode cX11_sentence 24 = .ok (.aload_n 0, 1) := by decide +kernel
theorem dX11_sentence_25 : decode cX11_sentence 25 = .ok (.getfield 10, 3) := by decide +kernel
theorem dX11_sentence_28 : decode cX11_sentence 28 = .ok (.getfield 113, 3) := by decide +kernel
theorem dX11_sentence_31 : decode cX11_sentence 31 = .ok (.ifCond .eq 13, 3) := by decide +kernel
theorem dX11_sentence_34 : decode cX11_sentence 34 = .ok (.iconst (-1), 1) := by decide +kernel
theorem dX11_sentence_35 : decode cX11_sentence 35 = .ok (.aload_n 0, 1) := by decide +kernel
theorem dX11_sentence_36 : decode cX11_sentence 36 = .ok (.getfield 10, 3) := by decide +kernel
theorem dX11_sentence_39 : decode cX11_sentence 39 = .ok (.getfield 116, 3) := by decide +kernel
theorem dX11_sentence_42 : decode cX11_sentence 42 = .ok (.isub, 1) := by decide +kernel
theorem dX11_sentence_43 : decode cX11_sentence 43 = .ok (.ireturn, 1) := by decide +kernel
set_option maxRecDepth 100000 in
set_option maxHeartbeats 4000000 in
theorem c_keptIfAny {l : Launch} {D : va_G} {cy : Nat → ClassId} {L : List Nat} {κ ln : Nat → Nat} {R : Nat → Nat → Option Nat} {I : Nat → Nat → Int32} {J : Nat → Nat → Int64} {ow : Nat → Nat × Nat} (W9 : ∀ a ∈ L, Shp L κ ln R ow a) {x : Nat} (hLx : x ∈ L) (hkx : κ x = 11) (N : Nat) (h0 : 1 ≤ N ∧ N ≤ 60) (h1 : ∀ b, R x 4 = some b → I b 1 = 0) (h2 : ∀ b, R x 4 = some b → I b 2 = 0) : CtI l yX11_keptIfAny cX11_keptIfAny 2 (some .int) { frames := 2, cells := 0, slots := 0, locals := 150 } D cy L κ ln R I J [.ref x, .int (nI N)] (fun r _ _ => r = nI N) := by
  refine CtI.of (by decide +kernel) (Nat.le_of_ble_eq_true rfl) ?_
  intro p e s m below meth c B K
  have C := B.1
  refine g_lo (is := [0, 1]) (lo2 := [(0, .ref x), (1, .int (nI N))]) rfl ?_
  refine g_iload_n C 1 dX11_keptIfAny_0 rfl rfl ?_
  refine n_if_le C (tgt := 11) (ln_le (n := N) (k := 0) (by omega) (by omega)) dX11_keptIfAny_1 (by decide) ?_
  refine g_aload_n C 0 dX11_keptIfAny_4 rfl rfl ?_
  obtain ⟨b_670, hb_670, hb_670L, hb_670k⟩ := shp_o (W9 x hLx) hkx 4 5 rfl (by decide)
  refine g_getR C K hLx hkx f_11_38 hb_670 dX11_keptIfAny_5 ?_
  refine g_callVV C K (c_Past_keepNoted0 hb_670L hb_670k (h1 b_670 hb_670) (h2 b_670 hb_670)) hb_670L hb_670k (by decide) rfl v_11_260 rfl ⟨rfl, rfl⟩ ⟨Nat.le_of_ble_eq_true rfl, Nat.le_of_ble_eq_true rfl⟩ (Nat.le_of_ble_eq_true rfl) ⟨Nat.le_of_ble_eq_true rfl, Nat.le_of_ble_eq_true rfl⟩ dX11_keptIfAny_8 rfl (st := []) (fun I_671 J_672 h_673 => ?_)
  obtain ⟨rfl, f_675⟩ := h_673
  refine g_iload_n C 1 dX11_keptIfAny_11 rfl rfl ?_
  exact g_zret (ty := .int) (r := nI N) B K rfl rfl (rfl) dX11_keptIfAny_12
set_option maxRecDepth 100000 in
set_option maxHeartbeats 4000000 in
theorem t_meals {l : Launch} {D : va_G} {cy : Nat → ClassId} {L : List Nat} {κ ln : Nat → Nat} {R : Nat → Nat → Option Nat} {I : Nat → Nat → Int32} {J : Nat → Nat → Int64} {ow : Nat → Nat × Nat} (W9 : ∀ a ∈ L, Shp L κ ln R ow a) {x : Nat} (hLx : x ∈ L) (hkx : κ x = 11) (FZ : Fz_ L κ I) (n : Int32) : CtI l yX11_meals cX11_meals 2 (some .int) { frames := 5, cells := 0, slots := 0, locals := 320 } D cy L κ ln R I J [.ref x, .int n] (fun r _ _ => r = if 1 ≤ n ∧ n ≤ 60 then n else -1) := by
  refine CtI.of (by decide +kernel) (Nat.le_of_ble_eq_true rfl) ?_
  intro p e s m below meth c B K
  have C := B.1
  have Z1 := fz_Z FZ 1 (by decide) (by decide) (by decide)
  have Z8 := fz_Z FZ 8 (by decide) (by decide) (by decide)
  refine g_lo (is := [0, 1]) (lo2 := [(0, .ref x), (1, .int n)]) rfl ?_
  refine g_iload_n C 1 dX11_meals_0 rfl rfl ?_
  refine g_iconst C (v := 1) dX11_meals_1 (by decide) ?_
  refine g_icmp_lt C (tgt := 11) dX11_meals_2 (by decide) (fun h_677 => ?_) (fun h_677 => ?_)
  · skip
    refine g_iconst C (v := (-1)) dX11_meals_11 (by decide) ?_
    exact g_zret (ty := .int) (r := (-1)) B K rfl rfl (by first | exact p_lo (by assumption) | exact p_hi (Int32.not_le.mp (by assumption))) dX11_meals_12
  · skip
    refine g_iload_n C 1 dX11_meals_5 rfl rfl ?_
    refine g_bipush C (v := 60) dX11_meals_6 (by decide) ?_
    refine g_icmp_le C (tgt := 13) dX11_meals_8 (by decide) (fun h_678 => ?_) (fun h_678 => ?_)
    · skip
      obtain ⟨N, hN, rfl⟩ := mk_N h_677 (fun q => Int32.lt_irrefl (Int32.lt_of_lt_of_le q h_678))
      refine g_aload_n C 0 dX11_meals_13 rfl rfl ?_
      obtain ⟨b_679, hb_679, hb_679L, hb_679k⟩ := shp_o (W9 x hLx) hkx 4 5 rfl (by decide)
      refine g_getR C K hLx hkx f_11_38 hb_679 dX11_meals_14 ?_
      refine g_aload_n C 0 dX11_meals_17 rfl rfl ?_
      obtain ⟨b_680, hb_680, hb_680L, hb_680k⟩ := shp_o (W9 x hLx) hkx 2 1 rfl (by decide)
      refine g_getR C K hLx hkx f_11_28 hb_680 dX11_meals_18 ?_
      refine g_callVV C K (c_Past_note0 W9 hb_679L hb_679k hb_680L hb_680k (Z1) ((by rw [FZ b_679 hb_679L 2, hb_679k]; rfl))) hb_679L hb_679k (by decide) rfl v_11_225 rfl ⟨rfl, rfl⟩ ⟨Nat.le_of_ble_eq_true rfl, Nat.le_of_ble_eq_true rfl⟩ (Nat.le_of_ble_eq_true rfl) ⟨Nat.le_of_ble_eq_true rfl, Nat.le_of_ble_eq_true rfl⟩ dX11_meals_21 rfl (st := []) (fun I_681 J_682 h_683 => ?_)
      obtain ⟨rfl, f_685, z_687⟩ := h_683
      refine g_aload_n C 0 dX11_meals_24 rfl rfl ?_
      refine g_aload_n C 0 dX11_meals_25 rfl rfl ?_
      refine g_getR C K hLx hkx f_11_28 hb_680 dX11_meals_26 ?_
      refine g_iload_n C 1 dX11_meals_29 rfl rfl ?_
      refine g_callVI C K (c_Course_letMealsGo0 W9 hb_680L hb_680k ((Z8).fk f_685 (by decide)) N hN.2 (z_687 b_680 hb_680L hb_680k 9)) hb_680L hb_680k (by decide) rfl v_11_250 rfl ⟨rfl, rfl⟩ ⟨Nat.le_of_ble_eq_true rfl, Nat.le_of_ble_eq_true rfl⟩ (Nat.le_of_ble_eq_true rfl) ⟨Nat.le_of_ble_eq_true rfl, Nat.le_of_ble_eq_true rfl⟩ dX11_meals_30 rfl (st := [.ref x]) (fun r_691 I_688 J_689 h_690 => ?_)
      obtain ⟨rfl, f_692, rfl⟩ := h_690
      refine g_callVI C K (c_keptIfAny W9 hLx hkx N hN (fun b hb => by rw [hb_679] at hb; cases hb; exact (by rw [f_692 b_679 1 (by rw [hb_679k]; decide), f_685 b_679 1 (by rw [hb_679k]; decide)]; exact (by rw [FZ b_679 hb_679L 1, hb_679k]; rfl))) (fun b hb => by rw [hb_679] at hb; cases hb; exact (by rw [f_692 b_679 2 (by rw [hb_679k]; decide), f_685 b_679 2 (by rw [hb_679k]; decide)]; exact (by rw [FZ b_679 hb_679L 2, hb_679k]; rfl)))) hLx hkx (by decide) rfl v_11_253 rfl ⟨rfl, rfl⟩ ⟨Nat.le_of_ble_eq_true rfl, Nat.le_of_ble_eq_true rfl⟩ (Nat.le_of_ble_eq_true rfl) ⟨Nat.le_of_ble_eq_true rfl, Nat.le_of_ble_eq_true rfl⟩ dX11_meals_33 rfl (st := []) (fun r_697 I_694 J_695 h_696 => ?_)
      subst h_696
      exact g_zret (ty := .int) (r := nI N) B K rfl rfl (by rw [if_pos ⟨lt_ge (k := 1) hN.1 (by omega), lt_le (k := 60) hN.2 (by decide)⟩]) dX11_meals_36
    · skip
      refine g_iconst C (v := (-1)) dX11_meals_11 (by decide) ?_
      exact g_zret (ty := .int) (r := (-1)) B K rfl rfl (by first | exact p_lo (by assumption) | exact p_hi (Int32.not_le.mp (by assumption))) dX11_meals_12
set_option maxRecDepth 100000 in
set_option maxHeartbeats 4000000 in
theorem t_book {l : Launch} {D : va_G} {cy : Nat → ClassId} {L : List Nat} {κ ln : Nat → Nat} {R : Nat → Nat → Option Nat} {I : Nat → Nat → Int32} {J : Nat → Nat → Int64} {ow : Nat → Nat × Nat} (W9 : ∀ a ∈ L, Shp L κ ln R ow a) {x : Nat} (hLx : x ∈ L) (hkx : κ x = 11) (FZ : Fz_ L κ I) (v : Int32) : CtI l yX11_book cX11_book 2 (some .int) { frames := 5, cells := 0, slots := 0, locals := 320 } D cy L κ ln R I J [.ref x, .int v] (fun r _ _ => r = if v = 0 ∨ v = 1 then -1 else -1000) := by
  refine CtI.of (by decide +kernel) (Nat.le_of_ble_eq_true rfl) ?_
  intro p e s m below meth c B K
  have C := B.1
  have Z1 := fz_Z FZ 1 (by decide) (by decide) (by decide)
  have Z8 := fz_Z FZ 8 (by decide) (by decide) (by decide)
  refine g_lo (is := [0, 1]) (lo2 := [(0, .ref x), (1, .int v)]) rfl ?_
  refine g_iload_n C 1 dX11_book_0 rfl rfl ?_
  refine g_if_eq C (tgt := 13) dX11_book_1 (by decide) (fun h_698 => ?_) (fun h_698 => ?_)
  · skip
    subst h_698
    refine g_aload_n C 0 dX11_book_13 rfl rfl ?_
    obtain ⟨b_699, hb_699, hb_699L, hb_699k⟩ := shp_o (W9 x hLx) hkx 6 0 rfl (by decide)
    refine g_getR C K hLx hkx f_11_52 hb_699 dX11_book_14 ?_
    refine g_aload_n C 0 dX11_book_17 rfl rfl ?_
    obtain ⟨b_700, hb_700, hb_700L, hb_700k⟩ := shp_o (W9 x hLx) hkx 0 10 rfl (by decide)
    refine g_getR C K hLx hkx f_11_10 hb_700 dX11_book_18 ?_
    refine g_aload_n C 0 dX11_book_21 rfl rfl ?_
    obtain ⟨b_701, hb_701, hb_701L, hb_701k⟩ := shp_o (W9 x hLx) hkx 1 8 rfl (by decide)
    refine g_getR C K hLx hkx f_11_19 hb_701 dX11_book_22 ?_
    refine g_callVV C K (c_Book_readFrom0 W9 hb_699L hb_699k hb_700L hb_700k hb_701L hb_701k ((by rw [FZ b_700 hb_700L 5, hb_700k]; rfl))) hb_699L hb_699k (by decide) rfl v_11_340 rfl ⟨rfl, rfl⟩ ⟨Nat.le_of_ble_eq_true rfl, Nat.le_of_ble_eq_true rfl⟩ (Nat.le_of_ble_eq_true rfl) ⟨Nat.le_of_ble_eq_true rfl, Nat.le_of_ble_eq_true rfl⟩ dX11_book_25 rfl (st := []) (fun I_702 J_703 h_704 => ?_)
    obtain ⟨g_707, f_706, v_708, v_709⟩ := h_704
    refine g_aload_n C 0 dX11_book_28 rfl rfl ?_
    refine g_getR C K hLx hkx f_11_10 hb_700 dX11_book_29 ?_
    refine g_iconst C (v := 0) dX11_book_32 (by decide) ?_
    refine h_putI C K hb_700L hb_700k f_11_102 p_10_5 dX11_book_33 (fun I_710 hI_710 => ?_)
    refine g_aload_n C 0 dX11_book_36 rfl rfl ?_
    refine g_getR C K hLx hkx f_11_10 hb_700 dX11_book_37 ?_
    refine g_getI C K hb_700L hb_700k f_11_113 (v := 0) (by rw [hI_710, u2_j (by decide)]; exact v_709) dX11_book_40 ?_
    refine t_if_eq C (tgt := 57) (by decide) dX11_book_43 (by decide) ?_
    refine g_aload_n C 0 dX11_book_57 rfl rfl ?_
    obtain ⟨b_711, hb_711, hb_711L, hb_711k⟩ := shp_o (W9 x hLx) hkx 3 1 rfl (by decide)
    refine g_getR C K hLx hkx f_11_32 hb_711 dX11_book_58 ?_
    refine g_aload_n C 0 dX11_book_61 rfl rfl ?_
    obtain ⟨b_712, hb_712, hb_712L, hb_712k⟩ := shp_o (W9 x hLx) hkx 2 1 rfl (by decide)
    refine g_getR C K hLx hkx f_11_28 hb_712 dX11_book_62 ?_
    refine g_callVV C K (c_Course_become W9 hb_711L hb_711k hb_712L hb_712k (((Z1).fk f_706 (by decide)).u2 hI_710 rfl)) hb_711L hb_711k (by decide) rfl v_11_126 rfl ⟨rfl, rfl⟩ ⟨Nat.le_of_ble_eq_true rfl, Nat.le_of_ble_eq_true rfl⟩ (Nat.le_of_ble_eq_true rfl) ⟨Nat.le_of_ble_eq_true rfl, Nat.le_of_ble_eq_true rfl⟩ dX11_book_65 rfl (st := []) (fun I_713 J_714 h_715 => ?_)
    obtain ⟨rfl, f_717, z_719⟩ := h_715
    refine g_aload_n C 0 dX11_book_68 rfl rfl ?_
    refine g_getR C K hLx hkx f_11_52 hb_699 dX11_book_69 ?_
    refine g_aload_n C 0 dX11_book_72 rfl rfl ?_
    refine g_getR C K hLx hkx f_11_32 hb_711 dX11_book_73 ?_
    refine g_callVV C K (c_Book_judgeBy0 hb_699L hb_699k hb_711L hb_711k (by rw [f_717 b_699 4 (by rw [hb_699k]; decide), hI_710, u2_j (by decide)]; exact v_708)) hb_699L hb_699k (by decide) rfl v_11_343 rfl ⟨rfl, rfl⟩ ⟨Nat.le_of_ble_eq_true rfl, Nat.le_of_ble_eq_true rfl⟩ (Nat.le_of_ble_eq_true rfl) ⟨Nat.le_of_ble_eq_true rfl, Nat.le_of_ble_eq_true rfl⟩ dX11_book_76 rfl (st := []) (fun I_720 J_721 h_722 => ?_)
    obtain ⟨rfl, f_724, v_726, v_727⟩ := h_722
    refine g_iload_n C 1 dX11_book_79 rfl rfl ?_
    refine g_iconst C (v := 1) dX11_book_80 (by decide) ?_
    refine t_icmp_ne C (tgt := 113) (by decide) dX11_book_81 (by decide) ?_
    refine g_aload_n C 0 dX11_book_113 rfl rfl ?_
    refine g_getR C K hLx hkx f_11_52 hb_699 dX11_book_114 ?_
    refine g_getI C K hb_699L hb_699k f_11_346 (v := 0) (v_726) dX11_book_117 ?_
    refine n_if_ne C (tgt := 127) (by decide) dX11_book_120 (by decide) ?_
    refine g_iconst C (v := (-1)) dX11_book_123 (by decide) ?_
    refine g_goto C (tgt := 134) dX11_book_124 (by decide) ?_
    exact g_zret (ty := .int) (r := (-1)) B K rfl rfl (by simp) dX11_book_134
  · skip
    refine g_iload_n C 1 dX11_book_4 rfl rfl ?_
    refine g_iconst C (v := 1) dX11_book_5 (by decide) ?_
    refine g_icmp_eq C (tgt := 13) dX11_book_6 (by decide) (fun h_728 => ?_) (fun h_728 => ?_)
    · skip
      subst h_728
      refine g_aload_n C 0 dX11_book_13 rfl rfl ?_
      obtain ⟨b_729, hb_729, hb_729L, hb_729k⟩ := shp_o (W9 x hLx) hkx 6 0 rfl (by decide)
      refine g_getR C K hLx hkx f_11_52 hb_729 dX11_book_14 ?_
      refine g_aload_n C 0 dX11_book_17 rfl rfl ?_
      obtain ⟨b_730, hb_730, hb_730L, hb_730k⟩ := shp_o (W9 x hLx) hkx 0 10 rfl (by decide)
      refine g_getR C K hLx hkx f_11_10 hb_730 dX11_book_18 ?_
      refine g_aload_n C 0 dX11_book_21 rfl rfl ?_
      obtain ⟨b_731, hb_731, hb_731L, hb_731k⟩ := shp_o (W9 x hLx) hkx 1 8 rfl (by decide)
      refine g_getR C K hLx hkx f_11_19 hb_731 dX11_book_22 ?_
      refine g_callVV C K (c_Book_readFrom0 W9 hb_729L hb_729k hb_730L hb_730k hb_731L hb_731k ((by rw [FZ b_730 hb_730L 5, hb_730k]; rfl))) hb_729L hb_729k (by decide) rfl v_11_340 rfl ⟨rfl, rfl⟩ ⟨Nat.le_of_ble_eq_true rfl, Nat.le_of_ble_eq_true rfl⟩ (Nat.le_of_ble_eq_true rfl) ⟨Nat.le_of_ble_eq_true rfl, Nat.le_of_ble_eq_true rfl⟩ dX11_book_25 rfl (st := []) (fun I_732 J_733 h_734 => ?_)
      obtain ⟨g_737, f_736, v_738, v_739⟩ := h_734
      refine g_aload_n C 0 dX11_book_28 rfl rfl ?_
      refine g_getR C K hLx hkx f_11_10 hb_730 dX11_book_29 ?_
      refine g_iconst C (v := 0) dX11_book_32 (by decide) ?_
      refine h_putI C K hb_730L hb_730k f_11_102 p_10_5 dX11_book_33 (fun I_740 hI_740 => ?_)
      refine g_aload_n C 0 dX11_book_36 rfl rfl ?_
      refine g_getR C K hLx hkx f_11_10 hb_730 dX11_book_37 ?_
      refine g_getI C K hb_730L hb_730k f_11_113 (v := 0) (by rw [hI_740, u2_j (by decide)]; exact v_739) dX11_book_40 ?_
      refine t_if_eq C (tgt := 57) (by decide) dX11_book_43 (by decide) ?_
      refine g_aload_n C 0 dX11_book_57 rfl rfl ?_
      obtain ⟨b_741, hb_741, hb_741L, hb_741k⟩ := shp_o (W9 x hLx) hkx 3 1 rfl (by decide)
      refine g_getR C K hLx hkx f_11_32 hb_741 dX11_book_58 ?_
      refine g_aload_n C 0 dX11_book_61 rfl rfl ?_
      obtain ⟨b_742, hb_742, hb_742L, hb_742k⟩ := shp_o (W9 x hLx) hkx 2 1 rfl (by decide)
      refine g_getR C K hLx hkx f_11_28 hb_742 dX11_book_62 ?_
      refine g_callVV C K (c_Course_become W9 hb_741L hb_741k hb_742L hb_742k (((Z1).fk f_736 (by decide)).u2 hI_740 rfl)) hb_741L hb_741k (by decide) rfl v_11_126 rfl ⟨rfl, rfl⟩ ⟨Nat.le_of_ble_eq_true rfl, Nat.le_of_ble_eq_true rfl⟩ (Nat.le_of_ble_eq_true rfl) ⟨Nat.le_of_ble_eq_true rfl, Nat.le_of_ble_eq_true rfl⟩ dX11_book_65 rfl (st := []) (fun I_743 J_744 h_745 => ?_)
      obtain ⟨rfl, f_747, z_749⟩ := h_745
      refine g_aload_n C 0 dX11_book_68 rfl rfl ?_
      refine g_getR C K hLx hkx f_11_52 hb_729 dX11_book_69 ?_
      refine g_aload_n C 0 dX11_book_72 rfl rfl ?_
      refine g_getR C K hLx hkx f_11_32 hb_741 dX11_book_73 ?_
      refine g_callVV C K (c_Book_judgeBy0 hb_729L hb_729k hb_741L hb_741k (by rw [f_747 b_729 4 (by rw [hb_729k]; decide), hI_740, u2_j (by decide)]; exact v_738)) hb_729L hb_729k (by decide) rfl v_11_343 rfl ⟨rfl, rfl⟩ ⟨Nat.le_of_ble_eq_true rfl, Nat.le_of_ble_eq_true rfl⟩ (Nat.le_of_ble_eq_true rfl) ⟨Nat.le_of_ble_eq_true rfl, Nat.le_of_ble_eq_true rfl⟩ dX11_book_76 rfl (st := []) (fun I_750 J_751 h_752 => ?_)
      obtain ⟨rfl, f_754, v_756, v_757⟩ := h_752
      refine g_iload_n C 1 dX11_book_79 rfl rfl ?_
      refine g_iconst C (v := 1) dX11_book_80 (by decide) ?_
      refine n_icmp_ne C (tgt := 113) (by decide) dX11_book_81 (by decide) ?_
      refine g_aload_n C 0 dX11_book_84 rfl rfl ?_
      obtain ⟨b_758, hb_758, hb_758L, hb_758k⟩ := shp_o (W9 x hLx) hkx 4 5 rfl (by decide)
      refine g_getR C K hLx hkx f_11_38 hb_758 dX11_book_85 ?_
      refine g_aload_n C 0 dX11_book_88 rfl rfl ?_
      refine g_getR C K hLx hkx f_11_28 hb_742 dX11_book_89 ?_
      refine g_callVV C K (c_Past_note0 W9 hb_758L hb_758k hb_742L hb_742k ((z_749).fk f_754 (by decide)) (by rw [f_754 b_758 2 (by rw [hb_758k]; decide), f_747 b_758 2 (by rw [hb_758k]; decide), hI_740, u2_j (by decide), f_736 b_758 2 (by rw [hb_758k]; decide)]; exact (by rw [FZ b_758 hb_758L 2, hb_758k]; rfl))) hb_758L hb_758k (by decide) rfl v_11_225 rfl ⟨rfl, rfl⟩ ⟨Nat.le_of_ble_eq_true rfl, Nat.le_of_ble_eq_true rfl⟩ (Nat.le_of_ble_eq_true rfl) ⟨Nat.le_of_ble_eq_true rfl, Nat.le_of_ble_eq_true rfl⟩ dX11_book_92 rfl (st := []) (fun I_759 J_760 h_761 => ?_)
      obtain ⟨rfl, f_763, z_765⟩ := h_761
      refine g_aload_n C 0 dX11_book_95 rfl rfl ?_
      refine g_getR C K hLx hkx f_11_38 hb_758 dX11_book_96 ?_
      refine g_callVV C K (c_Past_keepNoted0 hb_758L hb_758k (by rw [f_763 b_758 1 (by rw [hb_758k]; decide), f_754 b_758 1 (by rw [hb_758k]; decide), f_747 b_758 1 (by rw [hb_758k]; decide), hI_740, u2_j (by decide), f_736 b_758 1 (by rw [hb_758k]; decide)]; exact (by rw [FZ b_758 hb_758L 1, hb_758k]; rfl)) (by rw [f_763 b_758 2 (by rw [hb_758k]; decide), f_754 b_758 2 (by rw [hb_758k]; decide), f_747 b_758 2 (by rw [hb_758k]; decide), hI_740, u2_j (by decide), f_736 b_758 2 (by rw [hb_758k]; decide)]; exact (by rw [FZ b_758 hb_758L 2, hb_758k]; rfl))) hb_758L hb_758k (by decide) rfl v_11_260 rfl ⟨rfl, rfl⟩ ⟨Nat.le_of_ble_eq_true rfl, Nat.le_of_ble_eq_true rfl⟩ (Nat.le_of_ble_eq_true rfl) ⟨Nat.le_of_ble_eq_true rfl, Nat.le_of_ble_eq_true rfl⟩ dX11_book_99 rfl (st := []) (fun I_766 J_767 h_768 => ?_)
      obtain ⟨rfl, f_770⟩ := h_768
      refine g_aload_n C 0 dX11_book_102 rfl rfl ?_
      refine g_getR C K hLx hkx f_11_28 hb_742 dX11_book_103 ?_
      refine g_aload_n C 0 dX11_book_106 rfl rfl ?_
      refine g_getR C K hLx hkx f_11_32 hb_741 dX11_book_107 ?_
      refine g_callVV C K (c_Course_become W9 hb_742L hb_742k hb_741L hb_741k ((z_765).fk f_770 (by decide))) hb_742L hb_742k (by decide) rfl v_11_126 rfl ⟨rfl, rfl⟩ ⟨Nat.le_of_ble_eq_true rfl, Nat.le_of_ble_eq_true rfl⟩ (Nat.le_of_ble_eq_true rfl) ⟨Nat.le_of_ble_eq_true rfl, Nat.le_of_ble_eq_true rfl⟩ dX11_book_110 rfl (st := []) (fun I_772 J_773 h_774 => ?_)
      obtain ⟨rfl, f_776, z_778⟩ := h_774
      refine g_aload_n C 0 dX11_book_113 rfl rfl ?_
      refine g_getR C K hLx hkx f_11_52 hb_729 dX11_book_114 ?_
      refine g_getI C K hb_729L hb_729k f_11_346 (v := 0) (by rw [f_776 b_729 6 (by rw [hb_729k]; decide), f_770 b_729 6 (by rw [hb_729k]; decide), f_763 b_729 6 (by rw [hb_729k]; decide)]; exact v_756) dX11_book_117 ?_
      refine n_if_ne C (tgt := 127) (by decide) dX11_book_120 (by decide) ?_
      refine g_iconst C (v := (-1)) dX11_book_123 (by decide) ?_
      refine g_goto C (tgt := 134) dX11_book_124 (by decide) ?_
      exact g_zret (ty := .int) (r := (-1)) B K rfl rfl (by simp) dX11_book_134
    · skip
      refine g_sipush C (v := (-1000)) dX11_book_9 (by decide) ?_
      exact g_zret (ty := .int) (r := (-1000)) B K rfl rfl (by rw [if_neg (fun q => q.elim (by assumption) (by assumption))]) dX11_book_12
set_option maxRecDepth 100000 in
set_option maxHeartbeats 4000000 in
theorem t_sentence {l : Launch} {D : va_G} {cy : Nat → ClassId} {L : List Nat} {κ ln : Nat → Nat} {R : Nat → Nat → Option Nat} {I : Nat → Nat → Int32} {J : Nat → Nat → Int64} {ow : Nat → Nat × Nat} (W9 : ∀ a ∈ L, Shp L κ ln R ow a) {x : Nat} (hLx : x ∈ L) (hkx : κ x = 11) (FZ : Fz_ L κ I) : CtI l yX11_sentence cX11_sentence 1 (some .int) { frames := 5, cells := 0, slots := 0, locals := 320 } D cy L κ ln R I J [.ref x] (fun r _ _ => r = -1) := by
  refine CtI.of (by decide +kernel) (Nat.le_of_ble_eq_true rfl) ?_
  intro p e s m below meth c B K
  have C := B.1
  have Z1 := fz_Z FZ 1 (by decide) (by decide) (by decide)
  have Z8 := fz_Z FZ 8 (by decide) (by decide) (by decide)
  refine g_lo (is := [0]) (lo2 := [(0, .ref x)]) rfl ?_
  refine g_aload_n C 0 dX11_sentence_0 rfl rfl ?_
  obtain ⟨b_779, hb_779, hb_779L, hb_779k⟩ := shp_o (W9 x hLx) hkx 8 7 rfl (by decide)
  refine g_getR C K hLx hkx f_11_63 hb_779 dX11_sentence_1 ?_
  refine g_aload_n C 0 dX11_sentence_4 rfl rfl ?_
  obtain ⟨b_780, hb_780, hb_780L, hb_780k⟩ := shp_o (W9 x hLx) hkx 0 10 rfl (by decide)
  refine g_getR C K hLx hkx f_11_10 hb_780 dX11_sentence_5 ?_
  refine g_aload_n C 0 dX11_sentence_8 rfl rfl ?_
  obtain ⟨b_781, hb_781, hb_781L, hb_781k⟩ := shp_o (W9 x hLx) hkx 1 8 rfl (by decide)
  refine g_getR C K hLx hkx f_11_19 hb_781 dX11_sentence_9 ?_
  refine g_callVI C K (c_Sen_readFrom0 W9 hb_779L hb_779k hb_780L hb_780k hb_781L hb_781k ((by rw [FZ b_780 hb_780L 5, hb_780k]; rfl))) hb_779L hb_779k (by decide) rfl v_11_362 rfl ⟨rfl, rfl⟩ ⟨Nat.le_of_ble_eq_true rfl, Nat.le_of_ble_eq_true rfl⟩ (Nat.le_of_ble_eq_true rfl) ⟨Nat.le_of_ble_eq_true rfl, Nat.le_of_ble_eq_true rfl⟩ dX11_sentence_12 rfl (st := []) (fun r_785 I_782 J_783 h_784 => ?_)
  obtain ⟨g_787, f_786, v_788, v_789, rfl⟩ := h_784
  refine g_pop C dX11_sentence_15 rfl ?_
  refine g_aload_n C 0 dX11_sentence_16 rfl rfl ?_
  refine g_getR C K hLx hkx f_11_10 hb_780 dX11_sentence_17 ?_
  refine g_iconst C (v := 0) dX11_sentence_20 (by decide) ?_
  refine h_putI C K hb_780L hb_780k f_11_102 p_10_5 dX11_sentence_21 (fun I_790 hI_790 => ?_)
  refine g_aload_n C 0 dX11_sentence_24 rfl rfl ?_
  refine g_getR C K hLx hkx f_11_10 hb_780 dX11_sentence_25 ?_
  refine g_getI C K hb_780L hb_780k f_11_113 (v := 1) (by rw [hI_790, u2_j (by decide)]; exact v_788) dX11_sentence_28 ?_
  refine n_if_eq C (tgt := 44) (by decide) dX11_sentence_31 (by decide) ?_
  refine g_iconst C (v := (-1)) dX11_sentence_34 (by decide) ?_
  refine g_aload_n C 0 dX11_sentence_35 rfl rfl ?_
  refine g_getR C K hLx hkx f_11_10 hb_780 dX11_sentence_36 ?_
  refine g_getI C K hb_780L hb_780k f_11_116 (v := 0) (by rw [hI_790, u2_j (by decide)]; exact v_789) dX11_sentence_39 ?_
  refine g_isub C (v := (-1)) dX11_sentence_42 (by decide) ?_
  exact g_zret (ty := .int) (r := (-1)) B K rfl rfl (rfl) dX11_sentence_43
set_option maxRecDepth 100000 in
set_option maxHeartbeats 4000000 in
theorem t_image {l : Launch} {D : va_G} {cy : Nat → ClassId} {L : List Nat} {κ ln : Nat → Nat} {R : Nat → Nat → Option Nat} {I : Nat → Nat → Int32} {J : Nat → Nat → Int64} {ow : Nat → Nat × Nat} (W9 : ∀ a ∈ L, Shp L κ ln R ow a) {x : Nat} (hLx : x ∈ L) (hkx : κ x = 11) (FZ : Fz_ L κ I) (k : Int32) : CtI l yX11_image cX11_image 2 (some .boolean) { frames := 5, cells := 0, slots := 0, locals := 320 } D cy L κ ln R I J [.ref x, .int k] (fun r _ _ => r = if 0 ≤ k ∧ k ≤ 1 then 1 else 0) := by
  refine CtI.of (by decide +kernel) (Nat.le_of_ble_eq_true rfl) ?_
  intro p e s m below meth c B K
  have C := B.1
  have Z1 := fz_Z FZ 1 (by decide) (by decide) (by decide)
  have Z8 := fz_Z FZ 8 (by decide) (by decide) (by decide)
  refine g_lo (is := [0, 1]) (lo2 := [(0, .ref x), (1, .int k)]) rfl ?_
  refine g_iload_n C 1 dX11_image_0 rfl rfl ?_
  refine g_if_lt C (tgt := 9) dX11_image_1 (by decide) (fun h_791 => ?_) (fun h_791 => ?_)
  · skip
    refine g_iconst C (v := 0) dX11_image_9 (by decide) ?_
    exact g_zret (ty := .boolean) (r := 0) B K rfl (by decide) (by first | exact p_lo (by assumption) | exact p_hi' (e := 2) (by assumption) (by decide) | exact p_hi' (e := 2) (Int32.not_lt.mp (by assumption)) (by decide)) dX11_image_10
  · skip
    refine g_iload_n C 1 dX11_image_4 rfl rfl ?_
    refine g_iconst C (v := 2) dX11_image_5 (by decide) ?_
    refine g_icmp_lt C (tgt := 11) dX11_image_6 (by decide) (fun h_792 => ?_) (fun h_792 => ?_)
    · skip
      obtain ⟨i, hi, rfl⟩ := mk_i h_791 (Int32.not_le.mpr h_792)
      refine g_aload_n C 0 dX11_image_11 rfl rfl ?_
      obtain ⟨b_793, hb_793, hb_793L, hb_793k, hb_793n, hb_793o⟩ := shp_a (W9 x hLx) hkx 12 18 2 rfl (by decide)
      refine g_getR C K hLx hkx f_11_89 hb_793 dX11_image_12 ?_
      refine g_iload_n C 1 dX11_image_15 rfl rfl ?_
      obtain ⟨b_794, hb_794, hb_794L, hb_794k⟩ := (W9 b_793 hb_793L).2.2 hb_793k (i) (by rw [hb_793n]; omega)
      refine h_aaldI C K hb_793L hb_793k (i) (nI_clamp (by omega)) (nI_pos (by omega)) (by rw [hb_793n]; omega) hb_794 dX11_image_16 ?_
      refine g_aload_n C 0 dX11_image_17 rfl rfl ?_
      obtain ⟨b_795, hb_795, hb_795L, hb_795k⟩ := shp_o (W9 x hLx) hkx 1 8 rfl (by decide)
      refine g_getR C K hLx hkx f_11_19 hb_795 dX11_image_18 ?_
      refine g_aload_n C 0 dX11_image_21 rfl rfl ?_
      obtain ⟨b_796, hb_796, hb_796L, hb_796k⟩ := shp_o (W9 x hLx) hkx 2 1 rfl (by decide)
      refine g_getR C K hLx hkx f_11_28 hb_796 dX11_image_22 ?_
      refine g_aload_n C 0 dX11_image_25 rfl rfl ?_
      obtain ⟨b_797, hb_797, hb_797L, hb_797k⟩ := shp_o (W9 x hLx) hkx 7 7 rfl (by decide)
      refine g_getR C K hLx hkx f_11_59 hb_797 dX11_image_26 ?_
      refine g_callVV C K (c_Image_keep0 W9 hb_794L hb_794k hb_795L hb_795k hb_796L hb_796k hb_797L hb_797k Z1 Z8) hb_794L hb_794k (by decide) rfl v_11_379 rfl ⟨rfl, rfl⟩ ⟨Nat.le_of_ble_eq_true rfl, Nat.le_of_ble_eq_true rfl⟩ (Nat.le_of_ble_eq_true rfl) ⟨Nat.le_of_ble_eq_true rfl, Nat.le_of_ble_eq_true rfl⟩ dX11_image_29 rfl (st := []) (fun I_798 J_799 h_800 => ?_)
      obtain ⟨g_803, f_802⟩ := h_800
      refine g_iconst C (v := 1) dX11_image_32 (by decide) ?_
      exact g_zret (ty := .boolean) (r := 1) B K rfl (by decide) (p_in ⟨lt_ge (k := 0) (by omega) (by omega), lt_le (k := 1) (by omega) (by decide)⟩) dX11_image_33
    · skip
      refine g_iconst C (v := 0) dX11_image_9 (by decide) ?_
      exact g_zret (ty := .boolean) (r := 0) B K rfl (by decide) (by first | exact p_lo (by assumption) | exact p_hi' (e := 2) (by assumption) (by decide) | exact p_hi' (e := 2) (Int32.not_lt.mp (by assumption)) (by decide)) dX11_image_10
set_option maxRecDepth 100000 in
set_option maxHeartbeats 4000000 in
theorem t_restore {l : Launch} {D : va_G} {cy : Nat → ClassId} {L : List Nat} {κ ln : Nat → Nat} {R : Nat → Nat → Option Nat} {I : Nat → Nat → Int32} {J : Nat → Nat → Int64} {ow : Nat → Nat × Nat} (W9 : ∀ a ∈ L, Shp L κ ln R ow a) {x : Nat} (hLx : x ∈ L) (hkx : κ x = 11) (FZ : Fz_ L κ I) (k : Int32) : CtI l yX11_restore cX11_restore 2 (some .boolean) { frames := 5, cells := 0, slots := 0, locals := 320 } D cy L κ ln R I J [.ref x, .int k] (fun r _ _ => r = 0) := by
  refine CtI.of (by decide +kernel) (Nat.le_of_ble_eq_true rfl) ?_
  intro p e s m below meth c B K
  have C := B.1
  have Z1 := fz_Z FZ 1 (by decide) (by decide) (by decide)
  have Z8 := fz_Z FZ 8 (by decide) (by decide) (by decide)
  refine g_lo (is := [0, 1]) (lo2 := [(0, .ref x), (1, .int k)]) rfl ?_
  refine g_iload_n C 1 dX11_restore_0 rfl rfl ?_
  refine g_if_lt C (tgt := 21) dX11_restore_1 (by decide) (fun h_804 => ?_) (fun h_804 => ?_)
  · skip
    refine g_iconst C (v := 0) dX11_restore_21 (by decide) ?_
    exact g_zret (ty := .boolean) (r := 0) B K rfl (by decide) (rfl) dX11_restore_22
  · skip
    refine g_iload_n C 1 dX11_restore_4 rfl rfl ?_
    refine g_iconst C (v := 2) dX11_restore_5 (by decide) ?_
    refine g_icmp_ge C (tgt := 21) dX11_restore_6 (by decide) (fun h_805 => ?_) (fun h_805 => ?_)
    · skip
      refine g_iconst C (v := 0) dX11_restore_21 (by decide) ?_
      exact g_zret (ty := .boolean) (r := 0) B K rfl (by decide) (rfl) dX11_restore_22
    · skip
      obtain ⟨i, hi, rfl⟩ := mk_i h_804 h_805
      refine g_aload_n C 0 dX11_restore_9 rfl rfl ?_
      obtain ⟨b_806, hb_806, hb_806L, hb_806k, hb_806n, hb_806o⟩ := shp_a (W9 x hLx) hkx 12 18 2 rfl (by decide)
      refine g_getR C K hLx hkx f_11_89 hb_806 dX11_restore_10 ?_
      refine g_iload_n C 1 dX11_restore_13 rfl rfl ?_
      obtain ⟨b_807, hb_807, hb_807L, hb_807k⟩ := (W9 b_806 hb_806L).2.2 hb_806k (i) (by rw [hb_806n]; omega)
      refine h_aaldI C K hb_806L hb_806k (i) (nI_clamp (by omega)) (nI_pos (by omega)) (by rw [hb_806n]; omega) hb_807 dX11_restore_14 ?_
      refine g_getI C K hb_807L hb_807k f_11_383 (v := 0) ((by rw [FZ b_807 hb_807L 3, hb_807k]; rfl)) dX11_restore_15 ?_
      refine n_if_ne C (tgt := 23) (by decide) dX11_restore_18 (by decide) ?_
      refine g_iconst C (v := 0) dX11_restore_21 (by decide) ?_
      exact g_zret (ty := .boolean) (r := 0) B K rfl (by decide) (rfl) dX11_restore_22
end
section
theorem dX12_bad_0 : decode cX12_bad 0 = .ok (.aload_n 0, 1) := by decide +kernel
theorem dX12_bad_1 : decode cX12_bad 1 = .ok (.aload_n 0, 1) := by decide +kernel
theorem dX12_bad_2 : decode cX12_bad 2 = .ok (.getfield 104, 3) := by decide +kernel
theorem dX12_bad_5 : decode cX12_bad 5 = .ok (.iconst 1, 1) := by decide +kernel
theorem dX12_bad_6 : decode cX12_bad 6 = .ok (.if_icmp .ne 7, 3) := by decide +kernel
theorem dX12_bad_13 : decode cX12_bad 13 = .ok (.iload_n 1, 1) := by decide +kernel
theorem dX12_bad_14 : decode cX12_bad 14 = .ok (.putfield 140, 3) := by decide +kernel
theorem dX12_bad_17 : decode cX12_bad 17 = .ok (.aload_n 0, 1) := by decide +kernel
theorem dX12_bad_18 : decode cX12_bad 18 = .ok (.aload_n 0, 1) := by decide +kernel
theorem dX12_bad_19 : decode cX12_bad 19 = .ok (.getfield 98, 3) := by decide +kernel
theorem dX12_bad_22 : decode cX12_bad 22 = .ok (.putfield 143, 3) := by decide +kernel
theorem dX12_bad_25 : decode cX12_bad 25 = .ok (.iconst 0, 1) := by decide +kernel
theorem dX12_bad_26 : decode cX12_bad 26 = .ok (.ireturn, 1) := by decide +kernel
theorem dX12_begin_0 : decode cX12_begin 0 = .ok (.aload_n 0, 1) := by decide +kernel
theorem dX12_begin_1 : decode cX12_begin 1 = .ok (.iconst 0, 1) := by decide +kernel
theorem dX12_begin_2 : decode cX12_begin 2 = .ok (.putfield 82, 3) := by decide +kernel
theorem dX12_begin_5 : decode cX12_begin 5 = .ok (.aload_n 0, 1) := by decide +kernel
theorem dX12_begin_6 : decode cX12_begin 6 = .ok (.aload_n 0, 1) := by decide +kernel
theorem dX12_begin_7 : decode cX12_begin 7 = .ok (.invokevirtual 162, 3) := by decide +kernel
theorem dX12_begin_10 : decode cX12_begin 10 = .ok (.putfield 92, 3) := by decide +kernel
theorem dX12_begin_13 : decode cX12_begin 13 = .ok (.aload_n 0, 1) := by decide +kernel
theorem dX12_begin_14 : decode cX12_begin 14 = .ok (.iload_n 1, 1) := by decide +kernel
theorem dX12_begin_15 : decode cX12_begin 15 = .ok (.putfield 101, 3) := by decide +kernel
theorem dX12_begin_18 : decode cX12_begin 18 = .ok (.aload_n 0, 1) := by decide +kernel
theorem dX12_begin_19 : decode cX12_begin 19 = .ok (.iconst 0, 1) := by decide +kernel
theorem dX12_begin_20 : decode cX12_begin 20 = .ok (.putfield 140, 3) := by decide +kernel
theorem dX12_begin_23 : decode cX12_begin 23 = .ok (.aload_n 0, 1) := by decide +kernel
theorem dX12_begin_24 : decode cX12_begin 24 = .ok (.iconst 0, 1) := by decide +kernel
theorem dX12_begin_25 : decode cX12_begin 25 = .ok (.putfield 95, 3) := by decide +kernel
theorem dX12_begin_28 : decode cX12_begin 28 = .ok (.aload_n 0, 1) := by decide +kernel
theorem dX12_begin_29 : decode cX12_begin 29 = .ok (.invokevirtual 156, 3) := by decide +kernel
theorem dX12_begin_32 : decode cX12_begin 32 = .ok (.return_, 1) := by decide +kernel
theorem dX12_bits_0 : decode cX12_bits 0 = .ok (.iconst 0, 1) := by decide +kernel
theorem dX12_bits_1 : decode cX12_bits 1 = .ok (.istore_n 1, 1) := by decide +kernel
theorem dX12_bits_2 : decode cX12_bits 2 = .ok (.iload_n 0, 1) := by decide +kernel
theorem dX12_bits_3 : decode cX12_bits 3 = .ok (.istore_n 2, 1) := by decide +kernel
theorem dX12_bits_4 : decode cX12_bits 4 = .ok (.iload_n 2, 1) := by decide +kernel
theorem dX12_bits_5 : decode cX12_bits 5 = .ok (.ifCond .eq 15, 3) := by decide +kernel
theorem dX12_bits_20 : decode cX12_bits 20 = .ok (.iload_n 1, 1) := by decide +kernel
theorem dX12_bits_21 : decode cX12_bits 21 = .ok (.ireturn, 1) := by decide +kernel
theorem dX12_go_0 : decode cX12_go 0 = .ok (.aload_n 0, 1) := by decide +kernel
theorem dX12_go_1 : decode cX12_go 1 = .ok (.getfield 95, 3) := by decide +kernel
theorem dX12_go_4 : decode cX12_go 4 = .ok (.aload_n 0, 1) := by decide +kernel
theorem dX12_go_5 : decode cX12_go 5 = .ok (.getfield 92, 3) := by decide +kernel
theorem dX12_go_8 : decode cX12_go 8 = .ok (.if_icmp .ge 44, 3) := by decide +kernel
theorem dX12_go_52 : decode cX12_go 52 = .ok (.aload_n 0, 1) := by decide +kernel
theorem dX12_go_53 : decode cX12_go 53 = .ok (.aload_n 0, 1) := by decide +kernel
theorem dX12_go_54 : decode cX12_go 54 = .ok (.getfield 95, 3) := by decide +kernel
theorem dX12_go_57 : decode cX12_go 57 = .ok (.putfield 98, 3) := by decide +kernel
theorem dX12_go_60 : decode cX12_go 60 = .ok (.aload_n 0, 1) := by decide +kernel
theorem dX12_go_61 : decode cX12_go 61 = .ok (.getfield 92, 3) := by decide +kernel
theorem dX12_go_64 : decode cX12_go 64 = .ok (.aload_n 0, 1) := by decide +kernel
theorem dX12_go_65 : decode cX12_go 65 = .ok (.getfield 101, 3) := by decide +kernel
theorem dX12_go_68 : decode cX12_go 68 = .ok (.if_icmp .le 28, 3) := by decide +kernel
theorem dX12_go_96 : decode cX12_go 96 = .ok (.aload_n 0, 1) := by decide +kernel
theorem dX12_go_97 : decode cX12_go 97 = .ok (.getfield 95, 3) := by decide +kernel
theorem dX12_go_100 : decode cX12_go 100 = .ok (.aload_n 0, 1) := by decide +kernel
theorem dX12_go_101 : decode cX12_go 101 = .ok (.getfield 92, 3) := by decide +kernel
theorem dX12_go_104 : decode cX12_go 104 = .ok (.if_icmp .lt 9, 3) := by decide +kernel
theorem dX12_go_107 : decode cX12_go 107 = .ok (.aload_n 0, 1) := by decide +kernel
theorem dX12_go_108 : decode cX12_go 108 = .ok (.iconst 0, 1) := by decide +kernel
theorem dX12_go_109 : decode cX12_go 109 = .ok (.putfield 104, 3) := by decide +kernel
theorem dX12_go_112 : decode cX12_go 112 = .ok (.return_, 1) := by decide +kernel
theorem dX12_isDish_0 : decode cX12_isDish 0 = .ok (.iload_n 1, 1) := by decide +kernel
theorem dX12_isDish_1 : decode cX12_isDish 1 = .ok (.iconst 0, 1) := by decide +kernel
theorem dX12_isDish_2 : decode cX12_isDish 2 = .ok (.aload_n 0, 1) := by decide +kernel
theorem dX12_isDish_3 : decode cX12_isDish 3 = .ok (.getfield 13, 3) := by decide +kernel
theorem dX12_isDish_6 : decode cX12_isDish 6 = .ok (.iconst 1, 1) := by decide +kernel
theorem dX12_isDish_7 : decode cX12_isDish 7 = .ok (.iaload, 1) := by decide +kernel
theorem dX12_isDish_8 : decode cX12_isDish 8 = .ok (.iconst 1, 1) := by decide +kernel
theorem dX12_isDish_9 : decode cX12_isDish 9 = .ok (.isub, 1) := by decide +kernel
theorem dX12_isDish_10 : decode cX12_isDish 10 = .ok (.invokestatic 149, 3) := by decide +kernel
theorem dX12_isDish_13 : decode cX12_isDish 13 = .ok (.ireturn, 1) := by decide +kernel
theorem dX12_isPerson_0 : decode cX12_isPerson 0 = .ok (.iload_n 1, 1) := by decide +kernel
theorem dX12_isPerson_1 : decode cX12_isPerson 1 = .ok (.iconst 0, 1) := by decide +kernel
theorem dX12_isPerson_2 : decode cX12_isPerson 2 = .ok (.aload_n 0, 1) := by decide +kernel
theorem dX12_isPerson_3 : decode cX12_isPerson 3 = .ok (.getfield 13, 3) := by decide +kernel
theorem dX12_isPerson_6 : decode cX12_isPerson 6 = .ok (.iconst 0, 1) := by decide +kernel
theorem dX12_isPerson_7 : decode cX12_isPerson 7 = .ok (.iaload, 1) := by decide +kernel
theorem dX12_isPerson_8 : decode cX12_isPerson 8 = .ok (.iconst 1, 1) := by decide +kernel
theorem dX12_isPerson_9 : decode cX12_isPerson 9 = .ok (.isub, 1) := by decide +kernel
theorem dX12_isPerson_10 : decode cX12_isPerson 10 = .ok (.invokestatic 149, 3) := by decide +kernel
theorem dX12_isPerson_13 : decode cX12_isPerson 13 = .ok (.ireturn, 1) := by decide +kernel
theorem dX12_isSign_0 : decode cX12_isSign 0 = .ok (.aload_n 0, 1) := by decide +kernel
theorem dX12_isSign_1 : decode cX12_isSign 1 = .ok (.getfield 104, 3) := by decide +kernel
theorem dX12_isSign_4 : decode cX12_isSign 4 = .ok (.iconst 4, 1) := by decide +kernel
theorem dX12_isSign_5 : decode cX12_isSign 5 = .ok (.if_icmp .ne 15, 3) := by decide +kernel
theorem dX12_isSign_20 : decode cX12_isSign 20 = .ok (.iconst 0, 1) := by decide +kernel
theorem dX12_isSign_21 : decode cX12_isSign 21 = .ok (.ireturn, 1) := by decide +kernel
theorem dX12_isWord_0 : decode cX12_isWord 0 = .ok (.aload_n 0, 1) := by decide +kernel
theorem dX12_isWord_1 : decode cX12_isWord 1 = .ok (.getfield 104, 3) := by decide +kernel
theorem dX12_isWord_4 : decode cX12_isWord 4 = .ok (.iconst 2, 1) := by decide +kernel
theorem dX12_isWord_5 : decode cX12_isWord 5 = .ok (.if_icmp .ne 19, 3) := by decide +kernel
theorem dX12_isWord_24 : decode cX12_isWord 24 = .ok (.iconst 0, 1) := by decide +kernel
theorem dX12_isWord_25 : decode cX12_isWord 25 = .ok (.ireturn, 1) := by decide +kernel
theorem dX12_layAside_0 : decode cX12_layAside 0 = .ok (.iconst 0, 1) := by decide +kernel
theorem dX12_layAside_1 : decode cX12_layAside 1 = .ok (.istore_n 1, 1) := by decide +kernel
theorem dX12_layAside_2 : decode cX12_layAside 2 = .ok (.iload_n 1, 1) := by decide +kernel
theorem dX12_layAside_3 : decode cX12_layAside 3 = .ok (.bipush 75, 2) := by decide +kernel
theorem dX12_layAside_5 : decode cX12_layAside 5 = .ok (.if_icmp .ge 24, 3) := by decide +kernel
theorem dX12_layAside_8 : decode cX12_layAside 8 = .ok (.aload_n 0, 1) := by decide +kernel
theorem dX12_layAside_9 : decode cX12_layAside 9 = .ok (.getfield 25, 3) := by decide +kernel
theorem dX12_layAside_12 : decode cX12_layAside 12 = .ok (.iload_n 1, 1) := by decide +kernel
theorem dX12_layAside_13 : decode cX12_layAside 13 = .ok (.aload_n 0, 1) := by decide +kernel
theorem dX12_layAside_14 : decode cX12_layAside 14 = .ok (.getfield 13, 3) := by decide +kernel
theorem dX12_layAside_17 : decode cX12_layAside 17 = .ok (.bipush 72, 2) := by decide +kernel
theorem dX12_layAside_19 : decode cX12_layAside 19 = .ok (.iload_n 1, 1) := by decide +kernel
theorem dX12_layAside_20 : decode cX12_layAside 20 = .ok (.iadd, 1) := by decide +kernel
theorem dX12_layAside_21 : decode cX12_layAside 21 = .ok (.iaload, 1) := by decide +kernel
theorem dX12_layAside_22 : decode cX12_layAside 22 = .ok (.iastore, 1) := by decide +kernel
theorem dX12_layAside_23 : decode cX12_layAside 23 = .ok (.iinc 1 1, 3) := by decide +kernel
theorem dX12_layAside_26 : decode cX12_layAside 26 = .ok (.goto (-24), 3) := by decide +kernel
theorem dX12_layAside_29 : decode cX12_layAside 29 = .ok (.return_, 1) := by decide +kernel
theorem dX12_least_0 : decode cX12_least 0 = .ok (.iload_n 0, 1) := by decide +kernel
theorem dX12_least_1 : decode cX12_least 1 = .ok (.iload_n 1, 1) := by decide +kernel
theorem dX12_least_2 : decode cX12_least 2 = .ok (.if_icmp .ge 7, 3) := by decide +kernel
theorem dX12_least_5 : decode cX12_least 5 = .ok (.iload_n 0, 1) := by decide +kernel
theorem dX12_least_6 : decode cX12_least 6 = .ok (.goto 4, 3) := by decide +kernel
theorem dX12_least_10 : decode cX12_least 10 = .ok (.ireturn, 1) := by decide +kernel
theorem dX12_living_0 : decode cX12_living 0 = .ok (.iconst 1, 1) := by decide +kernel
theorem dX12_living_1 : decode cX12_living 1 = .ok (.aload_n 0, 1) := by decide +kernel
theorem dX12_living_2 : decode cX12_living 2 = .ok (.getfield 13, 3) := by decide +kernel
theorem dX12_living_5 : decode cX12_living 5 = .ok (.iconst 0, 1) := by decide +kernel
theorem dX12_living_6 : decode cX12_living 6 = .ok (.iaload, 1) := by decide +kernel
theorem dX12_living_7 : decode cX12_living 7 = .ok (.ishl, 1) := by decide +kernel
theorem dX12_living_8 : decode cX12_living 8 = .ok (.iconst 1, 1) := by decide +kernel
theorem dX12_living_9 : decode cX12_living 9 = .ok (.isub, 1) := by decide +kernel
theorem dX12_living_10 : decode cX12_living 10 = .ok (.aload_n 0, 1) := by decide +kernel
theorem dX12_living_11 : decode cX12_living 11 = .ok (.getfield 13, 3) := by decide +kernel
theorem dX12_living_14 : decode cX12_living 14 = .ok (.bipush 73, 2) := by decide +kernel
theorem dX12_living_16 : decode cX12_living 16 = .ok (.iaload, 1) := by decide +kernel
theorem dX12_living_17 : decode cX12_living 17 = .ok (.iconst (-1), 1) := by decide +kernel
theorem dX12_living_18 : decode cX12_living 18 = .ok (.ixor, 1) := by decide +kernel
theorem dX12_living_19 : decode cX12_living 19 = .ok (.iand, 1) := by decide +kernel
theorem dX12_living_20 : decode cX12_living 20 = .ok (.ireturn, 1) := by decide +kernel
theorem dX12_oneMeal_0 : decode cX12_oneMeal 0 = .ok (.iconst 0, 1) := by decide +kernel
theorem dX12_oneMeal_1 : decode cX12_oneMeal 1 = .ok (.istore_n 1, 1) := by decide +kernel
theorem dX12_oneMeal_2 : decode cX12_oneMeal 2 = .ok (.iload_n 1, 1) := by decide +kernel
theorem dX12_oneMeal_3 : decode cX12_oneMeal 3 = .ok (.aload_n 0, 1) := by decide +kernel
theorem dX12_oneMeal_4 : decode cX12_oneMeal 4 = .ok (.getfield 13, 3) := by decide +kernel
theorem dX12_oneMeal_7 : decode cX12_oneMeal 7 = .ok (.iconst 0, 1) := by decide +kernel
theorem dX12_oneMeal_8 : decode cX12_oneMeal 8 = .ok (.iaload, 1) := by decide +kernel
theorem dX12_oneMeal_9 : decode cX12_oneMeal 9 = .ok (.if_icmp .ge 106, 3) := by decide +kernel
theorem dX12_oneMeal_115 : decode cX12_oneMeal 115 = .ok (.aload_n 0, 1) := by decide +kernel
theorem dX12_oneMeal_116 : decode cX12_oneMeal 116 = .ok (.getfield 13, 3) := by decide +kernel
theorem dX12_oneMeal_119 : decode cX12_oneMeal 119 = .ok (.bipush 72, 2) := by decide +kernel
theorem dX12_oneMeal_121 : decode cX12_oneMeal 121 = .ok (.dup2, 1) := by decide +kernel
theorem dX12_oneMeal_122 : decode cX12_oneMeal 122 = .ok (.iaload, 1) := by decide +kernel
theorem dX12_oneMeal_123 : decode cX12_oneMeal 123 = .ok (.iconst 1, 1) := by decide +kernel
theorem dX12_oneMeal_124 : decode cX12_oneMeal 124 = .ok (.iadd, 1) := by decide +kernel
theorem dX12_oneMeal_125 : decode cX12_oneMeal 125 = .ok (.iastore, 1) := by decide +kernel
theorem dX12_oneMeal_126 : decode cX12_oneMeal 126 = .ok (.return_, 1) := by decide +kernel
theorem dX12_orderFrom_0 : decode cX12_orderFrom 0 = .ok (.iload_n 2, 1) := by decide +kernel
theorem dX12_orderFrom_1 : decode cX12_orderFrom 1 = .ok (.ifCond .ne 87, 3) := by decide +kernel
theorem dX12_orderFrom_4 : decode cX12_orderFrom 4 = .ok (.iconst 0, 1) := by decide +kernel
theorem dX12_orderFrom_5 : decode cX12_orderFrom 5 = .ok (.istore_n 3, 1) := by decide +kernel
theorem dX12_orderFrom_6 : decode cX12_orderFrom 6 = .ok (.iconst 0, 1) := by decide +kernel
theorem dX12_orderFrom_7 : decode cX12_orderFrom 7 = .ok (.istore 4, 2) := by decide +kernel
theorem dX12_orderFrom_9 : decode cX12_orderFrom 9 = .ok (.iload 4, 2) := by decide +kernel
theorem dX12_orderFrom_11 : decode cX12_orderFrom 11 = .ok (.aload_n 0, 1) := by decide +kernel
theorem dX12_orderFrom_12 : decode cX12_orderFrom 12 = .ok (.getfield 13, 3) := by decide +kernel
theorem dX12_orderFrom_15 : decode cX12_orderFrom 15 = .ok (.iconst 0, 1) := by decide +kernel
theorem dX12_orderFrom_16 : decode cX12_orderFrom 16 = .ok (.iaload, 1) := by decide +kernel
theorem dX12_orderFrom_17 : decode cX12_orderFrom 17 = .ok (.if_icmp .ge 27, 3) := by decide +kernel
theorem dX12_orderFrom_44 : decode cX12_orderFrom 44 = .ok (.iload_n 3, 1) := by decide +kernel
theorem dX12_orderFrom_45 : decode cX12_orderFrom 45 = .ok (.aload_n 0, 1) := by decide +kernel
theorem dX12_orderFrom_46 : decode cX12_orderFrom 46 = .ok (.getfield 298, 3) := by decide +kernel
theorem dX12_orderFrom_49 : decode cX12_orderFrom 49 = .ok (.if_icmp .lt 4, 3) := by decide +kernel
theorem dX12_orderFrom_53 : decode cX12_orderFrom 53 = .ok (.aload_n 0, 1) := by decide +kernel
theorem dX12_orderFrom_54 : decode cX12_orderFrom 54 = .ok (.iload_n 3, 1) := by decide +kernel
theorem dX12_orderFrom_55 : decode cX12_orderFrom 55 = .ok (.putfield 298, 3) := by decide +kernel
theorem dX12_orderFrom_58 : decode cX12_orderFrom 58 = .ok (.iconst 0, 1) := by decide +kernel
theorem dX12_orderFrom_59 : decode cX12_orderFrom 59 = .ok (.istore 4, 2) := by decide +kernel
theorem dX12_orderFrom_61 : decode cX12_orderFrom 61 = .ok (.iload 4, 2) := by decide +kernel
theorem dX12_orderFrom_63 : decode cX12_orderFrom 63 = .ok (.iload_n 1, 1) := by decide +kernel
theorem dX12_orderFrom_64 : decode cX12_orderFrom 64 = .ok (.if_icmp .ge 23, 3) := by decide +kernel
theorem dX12_orderFrom_87 : decode cX12_orderFrom 87 = .ok (.return_, 1) := by decide +kernel
theorem dX12_passMeals_0 : decode cX12_passMeals 0 = .ok (.iload_n 1, 1) := by decide +kernel
theorem dX12_passMeals_1 : decode cX12_passMeals 1 = .ok (.sipush 200, 3) := by decide +kernel
theorem dX12_passMeals_4 : decode cX12_passMeals 4 = .ok (.aload_n 0, 1) := by decide +kernel
theorem dX12_passMeals_5 : decode cX12_passMeals 5 = .ok (.getfield 13, 3) := by decide +kernel
theorem dX12_passMeals_8 : decode cX12_passMeals 8 = .ok (.bipush 72, 2) := by decide +kernel
theorem dX12_passMeals_10 : decode cX12_passMeals 10 = .ok (.iaload, 1) := by decide +kernel
theorem dX12_passMeals_11 : decode cX12_passMeals 11 = .ok (.isub, 1) := by decide +kernel
theorem dX12_passMeals_12 : decode cX12_passMeals 12 = .ok (.invokestatic 265, 3) := by decide +kernel
theorem dX12_passMeals_15 : decode cX12_passMeals 15 = .ok (.istore_n 2, 1) := by decide +kernel
theorem dX12_passMeals_16 : decode cX12_passMeals 16 = .ok (.iconst 0, 1) := by decide +kernel
theorem dX12_passMeals_17 : decode cX12_passMeals 17 = .ok (.istore_n 3, 1) := by decide +kernel
theorem dX12_passMeals_18 : decode cX12_passMeals 18 = .ok (.iload_n 3, 1) := by decide +kernel
theorem dX12_passMeals_19 : decode cX12_passMeals 19 = .ok (.iload_n 2, 1) := by decide +kernel
theorem dX12_passMeals_20 : decode cX12_passMeals 20 = .ok (.if_icmp .ge 13, 3) := by decide +kernel
theorem dX12_passMeals_23 : decode cX12_passMeals 23 = .ok (.aload_n 0, 1) := by decide +kernel
theorem dX12_passMeals_24 : decode cX12_passMeals 24 = .ok (.invokevirtual 292, 3) := by decide +kernel
theorem dX12_passMeals_27 : decode cX12_passMeals 27 = .ok (.iinc 3 1, 3) := by decide +kernel
theorem dX12_passMeals_30 : decode cX12_passMeals 30 = .ok (.goto (-12), 3) := by decide +kernel
theorem dX12_passMeals_33 : decode cX12_passMeals 33 = .ok (.iload_n 2, 1) := by decide +kernel
theorem dX12_passMeals_34 : decode cX12_passMeals 34 = .ok (.ireturn, 1) := by decide +kernel
theorem dX12_readAnd_0 : decode cX12_readAnd 0 = .ok (.aload_n 0, 1) := by decide +kernel
theorem dX12_readAnd_1 : decode cX12_readAnd 1 = .ok (.invokevirtual 392, 3) := by decide +kernel
theorem dX12_readAnd_4 : decode cX12_readAnd 4 = .ok (.ifCond .ne 5, 3) := by decide +kernel
theorem dX12_readAnd_7 : decode cX12_readAnd 7 = .ok (.iconst 0, 1) := by decide +kernel
theorem dX12_readAnd_8 : decode cX12_readAnd 8 = .ok (.ireturn, 1) := by decide +kernel
theorem dX12_readOr_0 : decode cX12_readOr 0 = .ok (.aload_n 0, 1) := by decide +kernel
theorem dX12_readOr_1 : decode cX12_readOr 1 = .ok (.invokevirtual 383, 3) := by decide +kernel
theorem dX12_readOr_4 : decode cX12_readOr 4 = .ok (.ifCond .ne 5, 3) := by decide +kernel
theorem dX12_readOr_7 : decode cX12_readOr 7 = .ok (.iconst 0, 1) := by decide +kernel
theorem dX12_readOr_8 : decode cX12_readOr 8 = .ok (.ireturn, 1) := by decide +kernel
theorem dX12_readSaid_0 : decode cX12_readSaid 0 = .ok (.aload_n 0, 1) := by decide +kernel
theorem dX12_readSaid_1 : decode cX12_readSaid 1 = .ok (.bipush 40, 2) := by decide +kernel
theorem dX12_readSaid_3 : decode cX12_readSaid 3 = .ok (.invokevirtual 159, 3) := by decide +kernel
theorem dX12_readSaid_6 : decode cX12_readSaid 6 = .ok (.istore_n 1, 1) := by decide +kernel
theorem dX12_readSaid_7 : decode cX12_readSaid 7 = .ok (.bipush 18, 2) := by decide +kernel
theorem dX12_readSaid_9 : decode cX12_readSaid 9 = .ok (.istore_n 2, 1) := by decide +kernel
theorem dX12_readSaid_10 : decode cX12_readSaid 10 = .ok (.iload_n 2, 1) := by decide +kernel
theorem dX12_readSaid_11 : decode cX12_readSaid 11 = .ok (.bipush 27, 2) := by decide +kernel
theorem dX12_readSaid_13 : decode cX12_readSaid 13 = .ok (.if_icmp .gt 17, 3) := by decide +kernel
theorem dX12_readSaid_16 : decode cX12_readSaid 16 = .ok (.aload_n 0, 1) := by decide +kernel
theorem dX12_readSaid_17 : decode cX12_readSaid 17 = .ok (.iload_n 2, 1) := by decide +kernel
theorem dX12_readSaid_18 : decode cX12_readSaid 18 = .ok (.invokevirtual 191, 3) := by decide +kernel
theorem dX12_readSaid_21 : decode cX12_readSaid 21 = .ok (.ifCond .ne 9, 3) := by decide +kernel
theorem dX12_readSaid_24 : decode cX12_readSaid 24 = .ok (.iinc 2 1, 3) := by decide +kernel
theorem dX12_readSaid_27 : decode cX12_readSaid 27 = .ok (.goto (-17), 3) := by decide +kernel
theorem dX12_readSaid_30 : decode cX12_readSaid 30 = .ok (.iload_n 1, 1) := by decide +kernel
theorem dX12_readSaid_31 : decode cX12_readSaid 31 = .ok (.ifCond .ne 15, 3) := by decide +kernel
theorem dX12_readSaid_34 : decode cX12_readSaid 34 = .ok (.iload_n 2, 1) := by decide +kernel
theorem dX12_readSaid_35 : decode cX12_readSaid 35 = .ok (.bipush 27, 2) := by decide +kernel
theorem dX12_readSaid_37 : decode cX12_readSaid 37 = .ok (.if_icmp .le 9, 3) := by decide +kernel
theorem dX12_readSaid_40 : decode cX12_readSaid 40 = .ok (.aload_n 0, 1) := by decide +kernel
theorem dX12_readSaid_41 : decode cX12_readSaid 41 = .ok (.iconst 1, 1) := by decide +kernel
theorem dX12_readSaid_42 : decode cX12_readSaid 42 = .ok (.invokevirtual 146, 3) := by decide +kernel
theorem dX12_readSaid_45 : decode cX12_readSaid 45 = .ok (.ireturn, 1) := by decide +kernel
theorem dX12_refuse_0 : decode cX12_refuse 0 = .ok (.aload_n 0, 1) := by decide +kernel
theorem dX12_refuse_1 : decode cX12_refuse 1 = .ok (.iconst 1, 1) := by decide +kernel
theorem dX12_refuse_2 : decode cX12_refuse 2 = .ok (.putfield 82, 3) := by decide +kernel
theorem dX12_refuse_5 : decode cX12_refuse 5 = .ok (.iconst 0, 1) := by decide +kernel
theorem dX12_refuse_6 : decode cX12_refuse 6 = .ok (.ireturn, 1) := by decide +kernel
theorem dX12_seatFrom_0 : decode cX12_seatFrom 0 = .ok (.iload_n 2, 1) := by decide +kernel
theorem dX12_seatFrom_1 : decode cX12_seatFrom 1 = .ok (.ifCond .ne 47, 3) := by decide +kernel
theorem dX12_seatFrom_4 : decode cX12_seatFrom 4 = .ok (.iload_n 3, 1) := by decide +kernel
theorem dX12_seatFrom_5 : decode cX12_seatFrom 5 = .ok (.aload_n 0, 1) := by decide +kernel
theorem dX12_seatFrom_6 : decode cX12_seatFrom 6 = .ok (.getfield 320, 3) := by decide +kernel
theorem dX12_seatFrom_9 : decode cX12_seatFrom 9 = .ok (.if_icmp .gt 4, 3) := by decide +kernel
theorem dX12_seatFrom_13 : decode cX12_seatFrom 13 = .ok (.aload_n 0, 1) := by decide +kernel
theorem dX12_seatFrom_14 : decode cX12_seatFrom 14 = .ok (.iload_n 3, 1) := by decide +kernel
theorem dX12_seatFrom_15 : decode cX12_seatFrom 15 = .ok (.putfield 320, 3) := by decide +kernel
theorem dX12_seatFrom_18 : decode cX12_seatFrom 18 = .ok (.iconst 0, 1) := by decide +kernel
theorem dX12_seatFrom_19 : decode cX12_seatFrom 19 = .ok (.istore 4, 2) := by decide +kernel
theorem dX12_seatFrom_21 : decode cX12_seatFrom 21 = .ok (.iload 4, 2) := by decide +kernel
theorem dX12_seatFrom_23 : decode cX12_seatFrom 23 = .ok (.iload_n 1, 1) := by decide +kernel
theorem dX12_seatFrom_24 : decode cX12_seatFrom 24 = .ok (.if_icmp .ge 23, 3) := by decide +kernel
theorem dX12_seatFrom_47 : decode cX12_seatFrom 47 = .ok (.return_, 1) := by decide +kernel
theorem dX12_snap_0 : decode cX12_snap 0 = .ok (.aload_n 0, 1) := by decide +kernel
theorem dX12_snap_1 : decode cX12_snap 1 = .ok (.getfield 228, 3) := by decide +kernel
theorem dX12_snap_4 : decode cX12_snap 4 = .ok (.bipush 8, 2) := by decide +kernel
theorem dX12_snap_6 : decode cX12_snap 6 = .ok (.if_icmp .ne 43, 3) := by decide +kernel
theorem dX12_snap_49 : decode cX12_snap 49 = .ok (.iconst 0, 1) := by decide +kernel
theorem dX12_snap_50 : decode cX12_snap 50 = .ok (.istore_n 1, 1) := by decide +kernel
theorem dX12_snap_51 : decode cX12_snap 51 = .ok (.iload_n 1, 1) := by decide +kernel
theorem dX12_snap_52 : decode cX12_snap 52 = .ok (.bipush 75, 2) := by decide +kernel
theorem dX12_snap_54 : decode cX12_snap 54 = .ok (.if_icmp .ge 32, 3) := by decide +kernel
theorem dX12_snap_57 : decode cX12_snap 57 = .ok (.aload_n 0, 1) := by decide +kernel
theorem dX12_snap_58 : decode cX12_snap 58 = .ok (.getfield 22, 3) := by decide +kernel
theorem dX12_snap_61 : decode cX12_snap 61 = .ok (.bipush 75, 2) := by decide +kernel
theorem dX12_snap_63 : decode cX12_snap 63 = .ok (.aload_n 0, 1) := by decide +kernel
theorem dX12_snap_64 : decode cX12_snap 64 = .ok (.getfield 228, 3) := by decide +kernel
theorem dX12_snap_67 : decode cX12_snap 67 = .ok (.imul, 1) := by decide +kernel
theorem dX12_snap_68 : decode cX12_snap 68 = .ok (.iload_n 1, 1) := by decide +kernel
theorem dX12_snap_69 : decode cX12_snap 69 = .ok (.iadd, 1) := by decide +kernel
theorem dX12_snap_70 : decode cX12_snap 70 = .ok (.aload_n 0, 1) := by decide +kernel
theorem dX12_snap_71 : decode cX12_snap 71 = .ok (.getfield 13, 3) := by decide +kernel
theorem dX12_snap_74 : decode cX12_snap 74 = .ok (.bipush 72, 2) := by decide +kernel
theorem dX12_snap_76 : decode cX12_snap 76 = .ok (.iload_n 1, 1) := by decide +kernel
theorem dX12_snap_77 : decode cX12_snap 77 = .ok (.iadd, 1) := by decide +kernel
theorem dX12_snap_78 : decode cX12_snap 78 = .ok (.iaload, 1) := by decide +kernel
theorem dX12_snap_79 : decode cX12_snap 79 = .ok (.iastore, 1) := by decide +kernel
theorem dX12_snap_80 : decode cX12_snap 80 = .ok (.iinc 1 1, 3) := by decide +kernel
theorem dX12_snap_83 : decode cX12_snap 83 = .ok (.goto (-32), 3) := by decide +kernel
theorem dX12_snap_86 : decode cX12_snap 86 = .ok (.aload_n 0, 1) := by decide +kernel
theorem dX12_snap_87 : decode cX12_snap 87 = .ok (.dup, 1) := by decide +kernel
theorem dX12_snap_88 : decode cX12_snap 88 = .ok (.getfield 228, 3) := by decide +kernel
theorem dX12_snap_91 : decode cX12_snap 91 = .ok (.iconst 1, 1) := by decide +kernel
theorem dX12_snap_92 : decode cX12_snap 92 = .ok (.iadd, 1) := by decide +kernel
theorem dX12_snap_93 : decode cX12_snap 93 = .ok (.putfield 228, 3) := by decide +kernel
theorem dX12_snap_96 : decode cX12_snap 96 = .ok (.return_, 1) := by decide +kernel
theorem dX12_startSo_0 : decode cX12_startSo 0 = .ok (.bipush 72, 2) := by decide +kernel
theorem dX12_startSo_2 : decode cX12_startSo 2 = .ok (.istore_n 1, 1) := by decide +kernel
theorem dX12_startSo_3 : decode cX12_startSo 3 = .ok (.iload_n 1, 1) := by decide +kernel
theorem dX12_startSo_4 : decode cX12_startSo 4 = .ok (.sipush 389, 3) := by decide +kernel
theorem dX12_startSo_7 : decode cX12_startSo 7 = .ok (.if_icmp .ge 16, 3) := by decide +kernel
theorem dX12_startSo_10 : decode cX12_startSo 10 = .ok (.aload_n 0, 1) := by decide +kernel
theorem dX12_startSo_11 : decode cX12_startSo 11 = .ok (.getfield 13, 3) := by decide +kernel
theorem dX12_startSo_14 : decode cX12_startSo 14 = .ok (.iload_n 1, 1) := by decide +kernel
theorem dX12_startSo_15 : decode cX12_startSo 15 = .ok (.iconst 0, 1) := by decide +kernel
theorem dX12_startSo_16 : decode cX12_startSo 16 = .ok (.iastore, 1) := by decide +kernel
theorem dX12_startSo_17 : decode cX12_startSo 17 = .ok (.iinc 1 1, 3) := by decide +kernel
theorem dX12_startSo_20 : decode cX12_startSo 20 = .ok (.goto (-17), 3) := by decide +kernel
theorem dX12_startSo_23 : decode cX12_startSo 23 = .ok (.iconst 0, 1) := by decide +kernel
theorem dX12_startSo_24 : decode cX12_startSo 24 = .ok (.istore_n 1, 1) := by decide +kernel
theorem dX12_startSo_25 : decode cX12_startSo 25 = .ok (.iload_n 1, 1) := by decide +kernel
theorem dX12_startSo_26 : decode cX12_startSo 26 = .ok (.bipush 6, 2) := by decide +kernel
theorem dX12_startSo_28 : decode cX12_startSo 28 = .ok (.if_icmp .ge 27, 3) := by decide +kernel
theorem dX12_startSo_31 : decode cX12_startSo 31 = .ok (.aload_n 0, 1) := by decide +kernel
theorem dX12_startSo_32 : decode cX12_startSo 32 = .ok (.getfield 13, 3) := by decide +kernel
theorem dX12_startSo_35 : decode cX12_startSo 35 = .ok (.bipush 78, 2) := by decide +kernel
theorem dX12_startSo_37 : decode cX12_startSo 37 = .ok (.iload_n 1, 1) := by decide +kernel
theorem dX12_startSo_38 : decode cX12_startSo 38 = .ok (.iadd, 1) := by decide +kernel
theorem dX12_startSo_39 : decode cX12_startSo 39 = .ok (.aload_n 0, 1) := by decide +kernel
theorem dX12_startSo_40 : decode cX12_startSo 40 = .ok (.getfield 13, 3) := by decide +kernel
theorem dX12_startSo_43 : decode cX12_startSo 43 = .ok (.bipush 18, 2) := by decide +kernel
theorem dX12_startSo_45 : decode cX12_startSo 45 = .ok (.iload_n 1, 1) := by decide +kernel
theorem dX12_startSo_46 : decode cX12_startSo 46 = .ok (.iadd, 1) := by decide +kernel
theorem dX12_startSo_47 : decode cX12_startSo 47 = .ok (.iaload, 1) := by decide +kernel
theorem dX12_startSo_48 : decode cX12_startSo 48 = .ok (.iastore, 1) := by decide +kernel
theorem dX12_startSo_49 : decode cX12_startSo 49 = .ok (.iinc 1 1, 3) := by decide +kernel
theorem dX12_startSo_52 : decode cX12_startSo 52 = .ok (.goto (-27), 3) := by decide +kernel
theorem dX12_startSo_55 : decode cX12_startSo 55 = .ok (.iconst 0, 1) := by decide +kernel
theorem dX12_startSo_56 : decode cX12_startSo 56 = .ok (.istore_n 1, 1) := by decide +kernel
theorem dX12_startSo_57 : decode cX12_startSo 57 = .ok (.iload_n 1, 1) := by decide +kernel
theorem dX12_startSo_58 : decode cX12_startSo 58 = .ok (.bipush 42, 2) := by decide +kernel
theorem dX12_startSo_60 : decode cX12_startSo 60 = .ok (.if_icmp .ge 27, 3) := by decide +kernel
theorem dX12_startSo_63 : decode cX12_startSo 63 = .ok (.aload_n 0, 1) := by decide +kernel
theorem dX12_startSo_64 : decode cX12_startSo 64 = .ok (.getfield 13, 3) := by decide +kernel
theorem dX12_startSo_67 : decode cX12_startSo 67 = .ok (.bipush 105, 2) := by decide +kernel
theorem dX12_startSo_69 : decode cX12_startSo 69 = .ok (.iload_n 1, 1) := by decide +kernel
theorem dX12_startSo_70 : decode cX12_startSo 70 = .ok (.iadd, 1) := by decide +kernel
theorem dX12_startSo_71 : decode cX12_startSo 71 = .ok (.aload_n 0, 1) := by decide +kernel
theorem dX12_startSo_72 : decode cX12_startSo 72 = .ok (.getfield 13, 3) := by decide +kernel
theorem dX12_startSo_75 : decode cX12_startSo 75 = .ok (.bipush 30, 2) := by decide +kernel
theorem dX12_startSo_77 : decode cX12_startSo 77 = .ok (.iload_n 1, 1) := by decide +kernel
theorem dX12_startSo_78 : decode cX12_startSo 78 = .ok (.iadd, 1) := by decide +kernel
theorem dX12_startSo_79 : decode cX12_startSo 79 = .ok (.iaload, 1) := by decide +kernel
theorem dX12_startSo_80 : decode cX12_startSo 80 = .ok (.iastore, 1) := by decide +kernel
theorem dX12_startSo_81 : decode cX12_startSo 81 = .ok (.iinc 1 1, 3) := by decide +kernel
theorem dX12_startSo_84 : decode cX12_startSo 84 = .ok (.goto (-27), 3) := by decide +kernel
theorem dX12_startSo_87 : decode cX12_startSo 87 = .ok (.return_, 1) := by decide +kernel
theorem dX12_stay_0 : decode cX12_stay 0 = .ok (.iconst 0, 1) := by decide +kernel
theorem dX12_stay_1 : decode cX12_stay 1 = .ok (.istore_n 2, 1) := by decide +kernel
theorem dX12_stay_2 : decode cX12_stay 2 = .ok (.iload_n 2, 1) := by decide +kernel
theorem dX12_stay_3 : decode cX12_stay 3 = .ok (.bipush 75, 2) := by decide +kernel
theorem dX12_stay_5 : decode cX12_stay 5 = .ok (.if_icmp .ge 41, 3) := by decide +kernel
theorem dX12_stay_8 : decode cX12_stay 8 = .ok (.aload_n 0, 1) := by decide +kernel
theorem dX12_stay_9 : decode cX12_stay 9 = .ok (.getfield 13, 3) := by decide +kernel
theorem dX12_stay_12 : decode cX12_stay 12 = .ok (.bipush 72, 2) := by decide +kernel
theorem dX12_stay_14 : decode cX12_stay 14 = .ok (.iload_n 2, 1) := by decide +kernel
theorem dX12_stay_15 : decode cX12_stay 15 = .ok (.iadd, 1) := by decide +kernel
theorem dX12_stay_16 : decode cX12_stay 16 = .ok (.iaload, 1) := by decide +kernel
theorem dX12_stay_17 : decode cX12_stay 17 = .ok (.istore_n 3, 1) := by decide +kernel
theorem dX12_stay_18 : decode cX12_stay 18 = .ok (.aload_n 0, 1) := by decide +kernel
theorem dX12_stay_19 : decode cX12_stay 19 = .ok (.getfield 13, 3) := by decide +kernel
theorem dX12_stay_22 : decode cX12_stay 22 = .ok (.bipush 72, 2) := by decide +kernel
theorem dX12_stay_24 : decode cX12_stay 24 = .ok (.iload_n 2, 1) := by decide +kernel
theorem dX12_stay_25 : decode cX12_stay 25 = .ok (.iadd, 1) := by decide +kernel
theorem dX12_stay_26 : decode cX12_stay 26 = .ok (.aload_n 0, 1) := by decide +kernel
theorem dX12_stay_27 : decode cX12_stay 27 = .ok (.getfield 25, 3) := by decide +kernel
theorem dX12_stay_30 : decode cX12_stay 30 = .ok (.iload_n 2, 1) := by decide +kernel
theorem dX12_stay_31 : decode cX12_stay 31 = .ok (.iaload, 1) := by decide +kernel
theorem dX12_stay_32 : decode cX12_stay 32 = .ok (.iastore, 1) := by decide +kernel
theorem dX12_stay_33 : decode cX12_stay 33 = .ok (.aload_n 0, 1) := by decide +kernel
theorem dX12_stay_34 : decode cX12_stay 34 = .ok (.getfield 25, 3) := by decide +kernel
theorem dX12_stay_37 : decode cX12_stay 37 = .ok (.iload_n 2, 1) := by decide +kernel
theorem dX12_stay_38 : decode cX12_stay 38 = .ok (.iload_n 3, 1) := by decide +kernel
theorem dX12_stay_39 : decode cX12_stay 39 = .ok (.iastore, 1) := by decide +kernel
theorem dX12_stay_40 : decode cX12_stay 40 = .ok (.iinc 2 1, 3) := by decide +kernel
theorem dX12_stay_43 : decode cX12_stay 43 = .ok (.goto (-41), 3) := by decide +kernel
theorem dX12_stay_46 : decode cX12_stay 46 = .ok (.iload_n 1, 1) := by decide +kernel
theorem dX12_stay_47 : decode cX12_stay 47 = .ok (.ifCond .ne 4, 3) := by decide +kernel
theorem dX12_stay_50 : decode cX12_stay 50 = .ok (.return_, 1) := by decide +kernel
theorem dX12_sumOf_0 : decode cX12_sumOf 0 = .ok (.iconst 0, 1) := by decide +kernel
theorem dX12_sumOf_1 : decode cX12_sumOf 1 = .ok (.istore_n 2, 1) := by decide +kernel
theorem dX12_sumOf_2 : decode cX12_sumOf 2 = .ok (.iconst 0, 1) := by decide +kernel
theorem dX12_sumOf_3 : decode cX12_sumOf 3 = .ok (.istore_n 3, 1) := by decide +kernel
theorem dX12_sumOf_4 : decode cX12_sumOf 4 = .ok (.iload_n 3, 1) := by decide +kernel
theorem dX12_sumOf_5 : decode cX12_sumOf 5 = .ok (.aload_n 0, 1) := by decide +kernel
theorem dX12_sumOf_6 : decode cX12_sumOf 6 = .ok (.getfield 13, 3) := by decide +kernel
theorem dX12_sumOf_9 : decode cX12_sumOf 9 = .ok (.iconst 0, 1) := by decide +kernel
theorem dX12_sumOf_10 : decode cX12_sumOf 10 = .ok (.iaload, 1) := by decide +kernel
theorem dX12_sumOf_11 : decode cX12_sumOf 11 = .ok (.if_icmp .ge 20, 3) := by decide +kernel
theorem dX12_sumOf_31 : decode cX12_sumOf 31 = .ok (.iload_n 2, 1) := by decide +kernel
theorem dX12_sumOf_32 : decode cX12_sumOf 32 = .ok (.ireturn, 1) := by decide +kernel
theorem dX12_take_0 : decode cX12_take 0 = .ok (.aload_n 0, 1) := by decide +kernel
theorem dX12_take_1 : decode cX12_take 1 = .ok (.getfield 85, 3) := by decide +kernel
theorem dX12_take_4 : decode cX12_take 4 = .ok (.istore_n 1, 1) := by decide +kernel
theorem dX12_take_5 : decode cX12_take 5 = .ok (.aload_n 0, 1) := by decide +kernel
theorem dX12_take_6 : decode cX12_take 6 = .ok (.iconst 0, 1) := by decide +kernel
theorem dX12_take_7 : decode cX12_take 7 = .ok (.putfield 85, 3) := by decide +kernel
theorem dX12_take_10 : decode cX12_take 10 = .ok (.iload_n 1, 1) := by decide +kernel
theorem dX12_take_11 : decode cX12_take 11 = .ok (.ireturn, 1) := by decide +kernel
theorem dX12_thrown_0 : decode cX12_thrown 0 = .ok (.aload_n 0, 1) := by decide +kernel
theorem dX12_thrown_1 : decode cX12_thrown 1 = .ok (.getfield 82, 3) := by decide +kernel
theorem dX12_thrown_4 : decode cX12_thrown 4 = .ok (.ireturn, 1) := by decide +kernel
theorem is_1 {x a b r : Int32} (er : r = if a ≤ x ∧ x ≤ b then 1 else 0) (h : ¬ r = 0) : a ≤ x ∧ x ≤ b := by
  by_cases q : a ≤ x ∧ x ≤ b
  · exact q
  · rw [if_neg q] at er; exact absurd er h
theorem is_0 {x a b r : Int32} (er : r = if a ≤ x ∧ x ≤ b then 1 else 0) (h : r = 0) : ¬ (a ≤ x ∧ x ≤ b) := by
  intro q
  rw [if_pos q, h] at er
  exact absurd er (by decide)
theorem z_in {v : Int32} : (if 0 ≤ v ∧ v ≤ -1 then (1 : Int32) else 0) = 0 := if_neg (z_isIn rfl)
theorem hz_ife {x a b r : Int32} (er : r = if a ≤ x ∧ x ≤ b then 1 else 0) : r = 0 ∨ r = 1 := by
  by_cases q : a ≤ x ∧ x ≤ b
  · rw [if_pos q] at er; exact Or.inr er
  · rw [if_neg q] at er; exact Or.inl er
set_option maxRecDepth 100000 in
set_option maxHeartbeats 4000000 in
theorem m_bits0 {l : Launch} {D : va_G} {cy : Nat → ClassId} {L : List Nat} {κ ln : Nat → Nat} {R : Nat → Nat → Option Nat} {I : Nat → Nat → Int32} {J : Nat → Nat → Int64}  : CtI l yX12_bits cX12_bits 3 (some .int) { frames := 0, cells := 0, slots := 0, locals := 0 } D cy L κ ln R I J [.int 0] (fun r I2 J2 => I = I2 ∧ J = J2 ∧ r = 0) := by
  refine CtI.of (by decide +kernel) (Nat.le_of_ble_eq_true rfl) ?_
  intro p e s m below meth c B K
  have C := B.1
  refine g_lo (is := [0]) (lo2 := [(0, .int 0)]) rfl ?_
  refine g_iconst C (v := 0) dX12_bits_0 (by decide) ?_
  refine g_istore_n C dX12_bits_1 rfl (by decide) (lo2 := [(1, .int 0), (0, .int 0)]) rfl ?_
  refine g_iload_n C 1 dX12_bits_2 rfl rfl ?_
  refine g_istore_n C dX12_bits_3 rfl (by decide) (lo2 := [(2, .int 0), (1, .int 0), (0, .int 0)]) rfl ?_
  refine g_iload_n C 0 dX12_bits_4 rfl rfl ?_
  refine t_if_eq C (tgt := 20) (by decide) dX12_bits_5 (by decide) ?_
  refine g_iload_n C 1 dX12_bits_20 rfl rfl ?_
  exact g_zret (ty := .int) (r := 0) B K rfl rfl (⟨rfl, rfl, rfl⟩) dX12_bits_21
set_option maxRecDepth 100000 in
set_option maxHeartbeats 4000000 in
theorem m_least0 {l : Launch} {D : va_G} {cy : Nat → ClassId} {L : List Nat} {κ ln : Nat → Nat} {R : Nat → Nat → Option Nat} {I : Nat → Nat → Int32} {J : Nat → Nat → Int64} (N : Nat) (h : N ≤ 60) : CtI l yX12_least cX12_least 2 (some .int) { frames := 0, cells := 0, slots := 0, locals := 0 } D cy L κ ln R I J [.int (nI N), .int 200] (fun r I2 J2 => I = I2 ∧ J = J2 ∧ r = nI N) := by
  refine CtI.of (by decide +kernel) (Nat.le_of_ble_eq_true rfl) ?_
  intro p e s m below meth c B K
  have C := B.1
  refine g_lo (is := [0, 1]) (lo2 := [(0, .int (nI N)), (1, .int 200)]) rfl ?_
  refine g_iload_n C 0 dX12_least_0 rfl rfl ?_
  refine g_iload_n C 1 dX12_least_1 rfl rfl ?_
  refine n_icmp_ge C (tgt := 9) (ln_ge (n := N) (k := 200) (by omega) (by omega)) dX12_least_2 (by decide) ?_
  refine g_iload_n C 0 dX12_least_5 rfl rfl ?_
  refine g_goto C (tgt := 10) dX12_least_6 (by decide) ?_
  exact g_zret (ty := .int) (r := nI N) B K rfl rfl (⟨rfl, rfl, rfl⟩) dX12_least_10
set_option maxRecDepth 100000 in
set_option maxHeartbeats 4000000 in
theorem m_isPerson0 {l : Launch} {D : va_G} {cy : Nat → ClassId} {L : List Nat} {κ ln : Nat → Nat} {R : Nat → Nat → Option Nat} {I : Nat → Nat → Int32} {J : Nat → Nat → Int64} {ow : Nat → Nat × Nat} (W9 : ∀ a ∈ L, Shp L κ ln R ow a) {x : Nat} (hLx : x ∈ L) (hkx : κ x = 12) (Z14 : Zk L κ 14 I) (p1 : Int32) : CtI l yX12_isPerson cX12_isPerson 2 (some .boolean) { frames := 1, cells := 0, slots := 0, locals := 100 } D cy L κ ln R I J [.ref x, .int p1] (fun r I2 J2 => I = I2 ∧ J = J2 ∧ r = 0) := by
  refine CtI.of (by decide +kernel) (Nat.le_of_ble_eq_true rfl) ?_
  intro p e s m below meth c B K
  have C := B.1
  refine g_lo (is := [0, 1]) (lo2 := [(0, .ref x), (1, .int p1)]) rfl ?_
  refine g_iload_n C 1 dX12_isPerson_0 rfl rfl ?_
  refine g_iconst C (v := 0) dX12_isPerson_1 (by decide) ?_
  refine g_aload_n C 0 dX12_isPerson_2 rfl rfl ?_
  obtain ⟨b_808, hb_808, hb_808L, hb_808k, hb_808n, hb_808o⟩ := shp_a (W9 x hLx) hkx 14 14 389 rfl (by decide)
  refine g_getR C K hLx hkx f_12_13 hb_808 dX12_isPerson_3 ?_
  refine g_iconst C (v := 0) dX12_isPerson_6 (by decide) ?_
  refine h_iald C K hb_808L hb_808k (v := 0) (0) (by decide) (by decide) (by rw [hb_808n]; decide) (Z14 b_808 hb_808L hb_808k 0) dX12_isPerson_7 ?_
  refine g_iconst C (v := 1) dX12_isPerson_8 (by decide) ?_
  refine g_isub C (v := (-1)) dX12_isPerson_9 (by decide) ?_
  refine g_callSI C K (c_Mod_isIn (p1) (0) ((-1))) s_12_149 rfl ⟨rfl, rfl⟩ ⟨Nat.le_of_ble_eq_true rfl, Nat.le_of_ble_eq_true rfl⟩ (Nat.le_of_ble_eq_true rfl) ⟨Nat.le_of_ble_eq_true rfl, Nat.le_of_ble_eq_true rfl⟩ dX12_isPerson_10 rfl (st := []) (fun r_812 I_809 J_810 h_811 => ?_)
  obtain ⟨rfl, rfl, er_812⟩ := h_811
  have h0r_812 := er_812
  rw [z_in] at er_812
  subst er_812
  exact g_zret (ty := .boolean) (r := 0) B K rfl (by decide) (⟨rfl, rfl, rfl⟩) dX12_isPerson_13
set_option maxRecDepth 100000 in
set_option maxHeartbeats 4000000 in
theorem m_isDish0 {l : Launch} {D : va_G} {cy : Nat → ClassId} {L : List Nat} {κ ln : Nat → Nat} {R : Nat → Nat → Option Nat} {I : Nat → Nat → Int32} {J : Nat → Nat → Int64} {ow : Nat → Nat × Nat} (W9 : ∀ a ∈ L, Shp L κ ln R ow a) {x : Nat} (hLx : x ∈ L) (hkx : κ x = 12) (Z14 : Zk L κ 14 I) (p1 : Int32) : CtI l yX12_isDish cX12_isDish 2 (some .boolean) { frames := 1, cells := 0, slots := 0, locals := 100 } D cy L κ ln R I J [.ref x, .int p1] (fun r I2 J2 => I = I2 ∧ J = J2 ∧ r = 0) := by
  refine CtI.of (by decide +kernel) (Nat.le_of_ble_eq_true rfl) ?_
  intro p e s m below meth c B K
  have C := B.1
  refine g_lo (is := [0, 1]) (lo2 := [(0, .ref x), (1, .int p1)]) rfl ?_
  refine g_iload_n C 1 dX12_isDish_0 rfl rfl ?_
  refine g_iconst C (v := 0) dX12_isDish_1 (by decide) ?_
  refine g_aload_n C 0 dX12_isDish_2 rfl rfl ?_
  obtain ⟨b_813, hb_813, hb_813L, hb_813k, hb_813n, hb_813o⟩ := shp_a (W9 x hLx) hkx 14 14 389 rfl (by decide)
  refine g_getR C K hLx hkx f_12_13 hb_813 dX12_isDish_3 ?_
  refine g_iconst C (v := 1) dX12_isDish_6 (by decide) ?_
  refine h_iald C K hb_813L hb_813k (v := 0) (1) (by decide) (by decide) (by rw [hb_813n]; decide) (Z14 b_813 hb_813L hb_813k 1) dX12_isDish_7 ?_
  refine g_iconst C (v := 1) dX12_isDish_8 (by decide) ?_
  refine g_isub C (v := (-1)) dX12_isDish_9 (by decide) ?_
  refine g_callSI C K (c_Mod_isIn (p1) (0) ((-1))) s_12_149 rfl ⟨rfl, rfl⟩ ⟨Nat.le_of_ble_eq_true rfl, Nat.le_of_ble_eq_true rfl⟩ (Nat.le_of_ble_eq_true rfl) ⟨Nat.le_of_ble_eq_true rfl, Nat.le_of_ble_eq_true rfl⟩ dX12_isDish_10 rfl (st := []) (fun r_817 I_814 J_815 h_816 => ?_)
  obtain ⟨rfl, rfl, er_817⟩ := h_816
  have h0r_817 := er_817
  rw [z_in] at er_817
  subst er_817
  exact g_zret (ty := .boolean) (r := 0) B K rfl (by decide) (⟨rfl, rfl, rfl⟩) dX12_isDish_13
set_option maxRecDepth 100000 in
set_option maxHeartbeats 4000000 in
theorem m_sumOf0_84 {l : Launch} {D : va_G} {cy : Nat → ClassId} {L : List Nat} {κ ln : Nat → Nat} {R : Nat → Nat → Option Nat} {I : Nat → Nat → Int32} {J : Nat → Nat → Int64} {ow : Nat → Nat × Nat} (W9 : ∀ a ∈ L, Shp L κ ln R ow a) {x : Nat} (hLx : x ∈ L) (hkx : κ x = 12) (Z14 : Zk L κ 14 I) : CtI l yX12_sumOf cX12_sumOf 4 (some .int) { frames := 0, cells := 0, slots := 0, locals := 0 } D cy L κ ln R I J [.ref x, .int 84] (fun r I2 J2 => I = I2 ∧ J = J2 ∧ r = 0) := by
  refine CtI.of (by decide +kernel) (Nat.le_of_ble_eq_true rfl) ?_
  intro p e s m below meth c B K
  have C := B.1
  refine g_lo (is := [0, 1]) (lo2 := [(0, .ref x), (1, .int 84)]) rfl ?_
  refine g_iconst C (v := 0) dX12_sumOf_0 (by decide) ?_
  refine g_istore_n C dX12_sumOf_1 rfl (by decide) (lo2 := [(2, .int 0), (0, .ref x), (1, .int 84)]) rfl ?_
  refine g_iconst C (v := 0) dX12_sumOf_2 (by decide) ?_
  refine g_istore_n C dX12_sumOf_3 rfl (by decide) (lo2 := [(3, .int 0), (2, .int 0), (0, .ref x), (1, .int 84)]) rfl ?_
  refine g_iload_n C 0 dX12_sumOf_4 rfl rfl ?_
  refine g_aload_n C 2 dX12_sumOf_5 rfl rfl ?_
  obtain ⟨b_818, hb_818, hb_818L, hb_818k, hb_818n, hb_818o⟩ := shp_a (W9 x hLx) hkx 14 14 389 rfl (by decide)
  refine g_getR C K hLx hkx f_12_13 hb_818 dX12_sumOf_6 ?_
  refine g_iconst C (v := 0) dX12_sumOf_9 (by decide) ?_
  refine h_iald C K hb_818L hb_818k (v := 0) (0) (by decide) (by decide) (by rw [hb_818n]; decide) (Z14 b_818 hb_818L hb_818k 0) dX12_sumOf_10 ?_
  refine t_icmp_ge C (tgt := 31) (by decide) dX12_sumOf_11 (by decide) ?_
  refine g_iload_n C 1 dX12_sumOf_31 rfl rfl ?_
  exact g_zret (ty := .int) (r := 0) B K rfl rfl (⟨rfl, rfl, rfl⟩) dX12_sumOf_32
set_option maxRecDepth 100000 in
set_option maxHeartbeats 4000000 in
theorem m_sumOf0_98 {l : Launch} {D : va_G} {cy : Nat → ClassId} {L : List Nat} {κ ln : Nat → Nat} {R : Nat → Nat → Option Nat} {I : Nat → Nat → Int32} {J : Nat → Nat → Int64} {ow : Nat → Nat × Nat} (W9 : ∀ a ∈ L, Shp L κ ln R ow a) {x : Nat} (hLx : x ∈ L) (hkx : κ x = 12) (Z14 : Zk L κ 14 I) : CtI l yX12_sumOf cX12_sumOf 4 (some .int) { frames := 0, cells := 0, slots := 0, locals := 0 } D cy L κ ln R I J [.ref x, .int 98] (fun r I2 J2 => I = I2 ∧ J = J2 ∧ r = 0) := by
  refine CtI.of (by decide +kernel) (Nat.le_of_ble_eq_true rfl) ?_
  intro p e s m below meth c B K
  have C := B.1
  refine g_lo (is := [0, 1]) (lo2 := [(0, .ref x), (1, .int 98)]) rfl ?_
  refine g_iconst C (v := 0) dX12_sumOf_0 (by decide) ?_
  refine g_istore_n C dX12_sumOf_1 rfl (by decide) (lo2 := [(2, .int 0), (0, .ref x), (1, .int 98)]) rfl ?_
  refine g_iconst C (v := 0) dX12_sumOf_2 (by decide) ?_
  refine g_istore_n C dX12_sumOf_3 rfl (by decide) (lo2 := [(3, .int 0), (2, .int 0), (0, .ref x), (1, .int 98)]) rfl ?_
  refine g_iload_n C 0 dX12_sumOf_4 rfl rfl ?_
  refine g_aload_n C 2 dX12_sumOf_5 rfl rfl ?_
  obtain ⟨b_819, hb_819, hb_819L, hb_819k, hb_819n, hb_819o⟩ := shp_a (W9 x hLx) hkx 14 14 389 rfl (by decide)
  refine g_getR C K hLx hkx f_12_13 hb_819 dX12_sumOf_6 ?_
  refine g_iconst C (v := 0) dX12_sumOf_9 (by decide) ?_
  refine h_iald C K hb_819L hb_819k (v := 0) (0) (by decide) (by decide) (by rw [hb_819n]; decide) (Z14 b_819 hb_819L hb_819k 0) dX12_sumOf_10 ?_
  refine t_icmp_ge C (tgt := 31) (by decide) dX12_sumOf_11 (by decide) ?_
  refine g_iload_n C 1 dX12_sumOf_31 rfl rfl ?_
  exact g_zret (ty := .int) (r := 0) B K rfl rfl (⟨rfl, rfl, rfl⟩) dX12_sumOf_32
set_option maxRecDepth 100000 in
set_option maxHeartbeats 4000000 in
theorem m_living0 {l : Launch} {D : va_G} {cy : Nat → ClassId} {L : List Nat} {κ ln : Nat → Nat} {R : Nat → Nat → Option Nat} {I : Nat → Nat → Int32} {J : Nat → Nat → Int64} {ow : Nat → Nat × Nat} (W9 : ∀ a ∈ L, Shp L κ ln R ow a) {x : Nat} (hLx : x ∈ L) (hkx : κ x = 12) (Z14 : Zk L κ 14 I) : CtI l yX12_living cX12_living 1 (some .int) { frames := 0, cells := 0, slots := 0, locals := 0 } D cy L κ ln R I J [.ref x] (fun r I2 J2 => I = I2 ∧ J = J2 ∧ r = 0) := by
  refine CtI.of (by decide +kernel) (Nat.le_of_ble_eq_true rfl) ?_
  intro p e s m below meth c B K
  have C := B.1
  refine g_lo (is := [0]) (lo2 := [(0, .ref x)]) rfl ?_
  refine g_iconst C (v := 1) dX12_living_0 (by decide) ?_
  refine g_aload_n C 0 dX12_living_1 rfl rfl ?_
  obtain ⟨b_820, hb_820, hb_820L, hb_820k, hb_820n, hb_820o⟩ := shp_a (W9 x hLx) hkx 14 14 389 rfl (by decide)
  refine g_getR C K hLx hkx f_12_13 hb_820 dX12_living_2 ?_
  refine g_iconst C (v := 0) dX12_living_5 (by decide) ?_
  refine h_iald C K hb_820L hb_820k (v := 0) (0) (by decide) (by decide) (by rw [hb_820n]; decide) (Z14 b_820 hb_820L hb_820k 0) dX12_living_6 ?_
  refine g_ishl C (v := 1) dX12_living_7 (by decide) ?_
  refine g_iconst C (v := 1) dX12_living_8 (by decide) ?_
  refine g_isub C (v := 0) dX12_living_9 (by decide) ?_
  refine g_aload_n C 0 dX12_living_10 rfl rfl ?_
  refine g_getR C K hLx hkx f_12_13 hb_820 dX12_living_11 ?_
  refine g_bipush C (v := 73) dX12_living_14 (by decide) ?_
  refine h_iald C K hb_820L hb_820k (v := 0) (73) (by decide) (by decide) (by rw [hb_820n]; decide) (Z14 b_820 hb_820L hb_820k 73) dX12_living_16 ?_
  refine g_iconst C (v := (-1)) dX12_living_17 (by decide) ?_
  refine g_ixor C (v := (-1)) dX12_living_18 (by decide) ?_
  refine g_iand C (v := 0) dX12_living_19 (by decide) ?_
  exact g_zret (ty := .int) (r := 0) B K rfl rfl (⟨rfl, rfl, rfl⟩) dX12_living_20
set_option maxRecDepth 100000 in
set_option maxHeartbeats 4000000 in
theorem m_isSign0 {l : Launch} {D : va_G} {cy : Nat → ClassId} {L : List Nat} {κ ln : Nat → Nat} {R : Nat → Nat → Option Nat} {I : Nat → Nat → Int32} {J : Nat → Nat → Int64} {x : Nat} (hLx : x ∈ L) (hkx : κ x = 12) (h7 : I x 7 = 0) : CtI l yX12_isSign cX12_isSign 2 (some .boolean) { frames := 0, cells := 0, slots := 0, locals := 0 } D cy L κ ln R I J [.ref x, .int 40] (fun r I2 J2 => I = I2 ∧ J = J2 ∧ r = 0) := by
  refine CtI.of (by decide +kernel) (Nat.le_of_ble_eq_true rfl) ?_
  intro p e s m below meth c B K
  have C := B.1
  refine g_lo (is := [0, 1]) (lo2 := [(0, .ref x), (1, .int 40)]) rfl ?_
  refine g_aload_n C 0 dX12_isSign_0 rfl rfl ?_
  refine g_getI C K hLx hkx f_12_104 (v := 0) (h7) dX12_isSign_1 ?_
  refine g_iconst C (v := 4) dX12_isSign_4 (by decide) ?_
  refine t_icmp_ne C (tgt := 20) (by decide) dX12_isSign_5 (by decide) ?_
  refine g_iconst C (v := 0) dX12_isSign_20 (by decide) ?_
  exact g_zret (ty := .boolean) (r := 0) B K rfl (by decide) (⟨rfl, rfl, rfl⟩) dX12_isSign_21
set_option maxRecDepth 100000 in
set_option maxHeartbeats 4000000 in
theorem m_isWord0 {l : Launch} {D : va_G} {cy : Nat → ClassId} {L : List Nat} {κ ln : Nat → Nat} {R : Nat → Nat → Option Nat} {I : Nat → Nat → Int32} {J : Nat → Nat → Int64} {x : Nat} (hLx : x ∈ L) (hkx : κ x = 12) (h7 : I x 7 = 0) (k : Int32) : CtI l yX12_isWord cX12_isWord 2 (some .boolean) { frames := 0, cells := 0, slots := 0, locals := 0 } D cy L κ ln R I J [.ref x, .int k] (fun r I2 J2 => I = I2 ∧ J = J2 ∧ r = 0) := by
  refine CtI.of (by decide +kernel) (Nat.le_of_ble_eq_true rfl) ?_
  intro p e s m below meth c B K
  have C := B.1
  refine g_lo (is := [0, 1]) (lo2 := [(0, .ref x), (1, .int k)]) rfl ?_
  refine g_aload_n C 0 dX12_isWord_0 rfl rfl ?_
  refine g_getI C K hLx hkx f_12_104 (v := 0) (h7) dX12_isWord_1 ?_
  refine g_iconst C (v := 2) dX12_isWord_4 (by decide) ?_
  refine t_icmp_ne C (tgt := 24) (by decide) dX12_isWord_5 (by decide) ?_
  refine g_iconst C (v := 0) dX12_isWord_24 (by decide) ?_
  exact g_zret (ty := .boolean) (r := 0) B K rfl (by decide) (⟨rfl, rfl, rfl⟩) dX12_isWord_25
set_option maxRecDepth 100000 in
set_option maxHeartbeats 4000000 in
theorem m_thrown1 {l : Launch} {D : va_G} {cy : Nat → ClassId} {L : List Nat} {κ ln : Nat → Nat} {R : Nat → Nat → Option Nat} {I : Nat → Nat → Int32} {J : Nat → Nat → Int64} {x : Nat} (hLx : x ∈ L) (hkx : κ x = 12) (h0 : I x 0 = 1) : CtI l yX12_thrown cX12_thrown 1 (some .int) { frames := 0, cells := 0, slots := 0, locals := 0 } D cy L κ ln R I J [.ref x] (fun r I2 J2 => I = I2 ∧ J = J2 ∧ r = 1) := by
  refine CtI.of (by decide +kernel) (Nat.le_of_ble_eq_true rfl) ?_
  intro p e s m below meth c B K
  have C := B.1
  refine g_lo (is := [0]) (lo2 := [(0, .ref x)]) rfl ?_
  refine g_aload_n C 0 dX12_thrown_0 rfl rfl ?_
  refine g_getI C K hLx hkx f_12_82 (v := 1) (h0) dX12_thrown_1 ?_
  exact g_zret (ty := .int) (r := 1) B K rfl rfl (⟨rfl, rfl, rfl⟩) dX12_thrown_4
set_option maxRecDepth 100000 in
set_option maxHeartbeats 4000000 in
theorem m_refuse {l : Launch} {D : va_G} {cy : Nat → ClassId} {L : List Nat} {κ ln : Nat → Nat} {R : Nat → Nat → Option Nat} {I : Nat → Nat → Int32} {J : Nat → Nat → Int64} {x : Nat} (hLx : x ∈ L) (hkx : κ x = 12)  : CtI l yX12_refuse cX12_refuse 1 (some .int) { frames := 0, cells := 0, slots := 0, locals := 0 } D cy L κ ln R I J [.ref x] (fun r I2 J2 => J = J2 ∧ Fk κ [12] I I2 ∧ I2 x 0 = 1 ∧ r = 0) := by
  refine CtI.of (by decide +kernel) (Nat.le_of_ble_eq_true rfl) ?_
  intro p e s m below meth c B K
  have C := B.1
  refine g_lo (is := [0]) (lo2 := [(0, .ref x)]) rfl ?_
  refine g_aload_n C 0 dX12_refuse_0 rfl rfl ?_
  refine g_iconst C (v := 1) dX12_refuse_1 (by decide) ?_
  refine h_putI C K hLx hkx f_12_82 p_12_0 dX12_refuse_2 (fun I_821 hI_821 => ?_)
  refine g_iconst C (v := 0) dX12_refuse_5 (by decide) ?_
  exact g_zret (ty := .int) (r := 0) B K rfl rfl (⟨rfl, (Fk.rf).u2 hI_821 hkx (by decide), by rw [hI_821]; exact u2_s, rfl⟩) dX12_refuse_6
set_option maxRecDepth 100000 in
set_option maxHeartbeats 4000000 in
theorem m_take0 {l : Launch} {D : va_G} {cy : Nat → ClassId} {L : List Nat} {κ ln : Nat → Nat} {R : Nat → Nat → Option Nat} {I : Nat → Nat → Int32} {J : Nat → Nat → Int64} {x : Nat} (hLx : x ∈ L) (hkx : κ x = 12) (h2 : I x 2 = 0) : CtI l yX12_take cX12_take 2 (some .int) { frames := 0, cells := 0, slots := 0, locals := 0 } D cy L κ ln R I J [.ref x] (fun r I2 J2 => J = J2 ∧ Fk κ [12] I I2 ∧ (∀ j, j ≠ 2 → I2 x j = I x j) ∧ r = 0) := by
  refine CtI.of (by decide +kernel) (Nat.le_of_ble_eq_true rfl) ?_
  intro p e s m below meth c B K
  have C := B.1
  refine g_lo (is := [0]) (lo2 := [(0, .ref x)]) rfl ?_
  refine g_aload_n C 0 dX12_take_0 rfl rfl ?_
  refine g_getI C K hLx hkx f_12_85 (v := 0) (h2) dX12_take_1 ?_
  refine g_istore_n C dX12_take_4 rfl (by decide) (lo2 := [(1, .int 0), (0, .ref x)]) rfl ?_
  refine g_aload_n C 1 dX12_take_5 rfl rfl ?_
  refine g_iconst C (v := 0) dX12_take_6 (by decide) ?_
  refine h_putI C K hLx hkx f_12_85 p_12_2 dX12_take_7 (fun I_822 hI_822 => ?_)
  refine g_iload_n C 0 dX12_take_10 rfl rfl ?_
  exact g_zret (ty := .int) (r := 0) B K rfl rfl (⟨rfl, (Fk.rf).u2 hI_822 hkx (by decide), fun j h0 => by rw [hI_822, u2_j h0], rfl⟩) dX12_take_11
set_option maxRecDepth 100000 in
set_option maxHeartbeats 4000000 in
theorem m_bad0 {l : Launch} {D : va_G} {cy : Nat → ClassId} {L : List Nat} {κ ln : Nat → Nat} {R : Nat → Nat → Option Nat} {I : Nat → Nat → Int32} {J : Nat → Nat → Int64} {x : Nat} (hLx : x ∈ L) (hkx : κ x = 12) (h7 : I x 7 = 0) (h6 : I x 6 = 0) : CtI l yX12_bad cX12_bad 2 (some .boolean) { frames := 0, cells := 0, slots := 0, locals := 0 } D cy L κ ln R I J [.ref x, .int 1] (fun r I2 J2 => J = J2 ∧ Fk κ [12] I I2 ∧ I2 x 10 = 1 ∧ I2 x 11 = 0 ∧ r = 0) := by
  refine CtI.of (by decide +kernel) (Nat.le_of_ble_eq_true rfl) ?_
  intro p e s m below meth c B K
  have C := B.1
  refine g_lo (is := [0, 1]) (lo2 := [(0, .ref x), (1, .int 1)]) rfl ?_
  refine g_aload_n C 0 dX12_bad_0 rfl rfl ?_
  refine g_aload_n C 0 dX12_bad_1 rfl rfl ?_
  refine g_getI C K hLx hkx f_12_104 (v := 0) (h7) dX12_bad_2 ?_
  refine g_iconst C (v := 1) dX12_bad_5 (by decide) ?_
  refine t_icmp_ne C (tgt := 13) (by decide) dX12_bad_6 (by decide) ?_
  refine g_iload_n C 1 dX12_bad_13 rfl rfl ?_
  refine h_putI C K hLx hkx f_12_140 p_12_10 dX12_bad_14 (fun I_823 hI_823 => ?_)
  refine g_aload_n C 0 dX12_bad_17 rfl rfl ?_
  refine g_aload_n C 0 dX12_bad_18 rfl rfl ?_
  refine g_getI C K hLx hkx f_12_98 (v := 0) (by rw [hI_823, u2_j (by decide)]; exact h6) dX12_bad_19 ?_
  refine h_putI C K hLx hkx f_12_143 p_12_11 dX12_bad_22 (fun I_824 hI_824 => ?_)
  refine g_iconst C (v := 0) dX12_bad_25 (by decide) ?_
  exact g_zret (ty := .boolean) (r := 0) B K rfl (by decide) (⟨rfl, ((Fk.rf).u2 hI_823 hkx (by decide)).u2 hI_824 hkx (by decide), by rw [hI_824, u2_j (by decide), hI_823]; exact u2_s, by rw [hI_824]; exact u2_s, rfl⟩) dX12_bad_26
set_option maxRecDepth 100000 in
set_option maxHeartbeats 4000000 in
theorem m_go0_900 {l : Launch} {D : va_G} {cy : Nat → ClassId} {L : List Nat} {κ ln : Nat → Nat} {R : Nat → Nat → Option Nat} {I : Nat → Nat → Int32} {J : Nat → Nat → Int64} {x : Nat} (hLx : x ∈ L) (hkx : κ x = 12) (h5 : I x 5 = 0) (h3 : I x 3 = 0) (h4 : I x 4 = 900) : CtV l yX12_go cX12_go 5 none { frames := 0, cells := 0, slots := 0, locals := 0 } D cy L κ ln R I J [.ref x] (fun I2 J2 => J = J2 ∧ Fk κ [12] I I2 ∧ (∀ j, j ≠ 6 → j ≠ 7 → I2 x j = I x j) ∧ I2 x 6 = 0 ∧ I2 x 7 = 0) := by
  refine CtV.of (by decide +kernel) (Nat.le_of_ble_eq_true rfl) ?_
  intro p e s m below meth c B K
  have C := B.1
  refine g_lo (is := [0]) (lo2 := [(0, .ref x)]) rfl ?_
  refine g_aload_n C 0 dX12_go_0 rfl rfl ?_
  refine g_getI C K hLx hkx f_12_95 (v := 0) (h5) dX12_go_1 ?_
  refine g_aload_n C 0 dX12_go_4 rfl rfl ?_
  refine g_getI C K hLx hkx f_12_92 (v := 0) (h3) dX12_go_5 ?_
  refine t_icmp_ge C (tgt := 52) (by decide) dX12_go_8 (by decide) ?_
  refine g_aload_n C 0 dX12_go_52 rfl rfl ?_
  refine g_aload_n C 0 dX12_go_53 rfl rfl ?_
  refine g_getI C K hLx hkx f_12_95 (v := 0) (h5) dX12_go_54 ?_
  refine h_putI C K hLx hkx f_12_98 p_12_6 dX12_go_57 (fun I_825 hI_825 => ?_)
  refine g_aload_n C 0 dX12_go_60 rfl rfl ?_
  refine g_getI C K hLx hkx f_12_92 (v := 0) (by rw [hI_825, u2_j (by decide)]; exact h3) dX12_go_61 ?_
  refine g_aload_n C 0 dX12_go_64 rfl rfl ?_
  refine g_getI C K hLx hkx f_12_101 (v := 900) (by rw [hI_825, u2_j (by decide)]; exact h4) dX12_go_65 ?_
  refine t_icmp_le C (tgt := 96) (by decide) dX12_go_68 (by decide) ?_
  refine g_aload_n C 0 dX12_go_96 rfl rfl ?_
  refine g_getI C K hLx hkx f_12_95 (v := 0) (by rw [hI_825, u2_j (by decide)]; exact h5) dX12_go_97 ?_
  refine g_aload_n C 0 dX12_go_100 rfl rfl ?_
  refine g_getI C K hLx hkx f_12_92 (v := 0) (by rw [hI_825, u2_j (by decide)]; exact h3) dX12_go_101 ?_
  refine n_icmp_lt C (tgt := 113) (by decide) dX12_go_104 (by decide) ?_
  refine g_aload_n C 0 dX12_go_107 rfl rfl ?_
  refine g_iconst C (v := 0) dX12_go_108 (by decide) ?_
  refine h_putI C K hLx hkx f_12_104 p_12_7 dX12_go_109 (fun I_826 hI_826 => ?_)
  exact g_vret B K rfl (⟨rfl, ((Fk.rf).u2 hI_825 hkx (by decide)).u2 hI_826 hkx (by decide), fun j h0 h1 => by rw [hI_826, u2_j h1, hI_825, u2_j h0], by rw [hI_826, u2_j (by decide), hI_825]; exact u2_s, by rw [hI_826]; exact u2_s⟩) dX12_go_112
set_option maxRecDepth 100000 in
set_option maxHeartbeats 4000000 in
theorem m_begin0_900 {l : Launch} {D : va_G} {cy : Nat → ClassId} {L : List Nat} {κ ln : Nat → Nat} {R : Nat → Nat → Option Nat} {I : Nat → Nat → Int32} {J : Nat → Nat → Int64} {x : Nat} (hLx : x ∈ L) (hkx : κ x = 12) (h2 : I x 2 = 0) : CtV l yX12_begin cX12_begin 2 none { frames := 1, cells := 0, slots := 0, locals := 100 } D cy L κ ln R I J [.ref x, .int 900] (fun I2 J2 => J = J2 ∧ Fk κ [12] I I2 ∧ I2 x 6 = 0 ∧ I2 x 7 = 0 ∧ I2 x 10 = 0) := by
  refine CtV.of (by decide +kernel) (Nat.le_of_ble_eq_true rfl) ?_
  intro p e s m below meth c B K
  have C := B.1
  refine g_lo (is := [0, 1]) (lo2 := [(0, .ref x), (1, .int 900)]) rfl ?_
  refine g_aload_n C 0 dX12_begin_0 rfl rfl ?_
  refine g_iconst C (v := 0) dX12_begin_1 (by decide) ?_
  refine h_putI C K hLx hkx f_12_82 p_12_0 dX12_begin_2 (fun I_827 hI_827 => ?_)
  refine g_aload_n C 0 dX12_begin_5 rfl rfl ?_
  refine g_aload_n C 0 dX12_begin_6 rfl rfl ?_
  refine g_callVI C K (m_take0 hLx hkx (by rw [hI_827, u2_j (by decide)]; exact h2)) hLx hkx (by decide) rfl v_12_162 rfl ⟨rfl, rfl⟩ ⟨Nat.le_of_ble_eq_true rfl, Nat.le_of_ble_eq_true rfl⟩ (Nat.le_of_ble_eq_true rfl) ⟨Nat.le_of_ble_eq_true rfl, Nat.le_of_ble_eq_true rfl⟩ dX12_begin_7 rfl (st := [.ref x]) (fun r_831 I_828 J_829 h_830 => ?_)
  obtain ⟨rfl, f_832, v_834, rfl⟩ := h_830
  refine h_putI C K hLx hkx f_12_92 p_12_3 dX12_begin_10 (fun I_835 hI_835 => ?_)
  refine g_aload_n C 0 dX12_begin_13 rfl rfl ?_
  refine g_iload_n C 1 dX12_begin_14 rfl rfl ?_
  refine h_putI C K hLx hkx f_12_101 p_12_4 dX12_begin_15 (fun I_836 hI_836 => ?_)
  refine g_aload_n C 0 dX12_begin_18 rfl rfl ?_
  refine g_iconst C (v := 0) dX12_begin_19 (by decide) ?_
  refine h_putI C K hLx hkx f_12_140 p_12_10 dX12_begin_20 (fun I_837 hI_837 => ?_)
  refine g_aload_n C 0 dX12_begin_23 rfl rfl ?_
  refine g_iconst C (v := 0) dX12_begin_24 (by decide) ?_
  refine h_putI C K hLx hkx f_12_95 p_12_5 dX12_begin_25 (fun I_838 hI_838 => ?_)
  refine g_aload_n C 0 dX12_begin_28 rfl rfl ?_
  refine g_callVV C K (m_go0_900 hLx hkx (by rw [hI_838]; exact u2_s) (by rw [hI_838, u2_j (by decide), hI_837, u2_j (by decide), hI_836, u2_j (by decide), hI_835]; exact u2_s) (by rw [hI_838, u2_j (by decide), hI_837, u2_j (by decide), hI_836]; exact u2_s)) hLx hkx (by decide) rfl v_12_156 rfl ⟨rfl, rfl⟩ ⟨Nat.le_of_ble_eq_true rfl, Nat.le_of_ble_eq_true rfl⟩ (Nat.le_of_ble_eq_true rfl) ⟨Nat.le_of_ble_eq_true rfl, Nat.le_of_ble_eq_true rfl⟩ dX12_begin_29 rfl (st := []) (fun I_839 J_840 h_841 => ?_)
  obtain ⟨rfl, f_843, v_845, v_846, v_847⟩ := h_841
  exact g_vret B K rfl (⟨rfl, (((((((Fk.rf).u2 hI_827 hkx (by decide)).tr f_832 (by decide)).u2 hI_835 hkx (by decide)).u2 hI_836 hkx (by decide)).u2 hI_837 hkx (by decide)).u2 hI_838 hkx (by decide)).tr f_843 (by decide), v_846, v_847, by rw [v_845 10 (by decide) (by decide), hI_838, u2_j (by decide), hI_837]; exact u2_s⟩) dX12_begin_32
set_option maxRecDepth 100000 in
set_option maxHeartbeats 4000000 in
theorem m_go0_400 {l : Launch} {D : va_G} {cy : Nat → ClassId} {L : List Nat} {κ ln : Nat → Nat} {R : Nat → Nat → Option Nat} {I : Nat → Nat → Int32} {J : Nat → Nat → Int64} {x : Nat} (hLx : x ∈ L) (hkx : κ x = 12) (h5 : I x 5 = 0) (h3 : I x 3 = 0) (h4 : I x 4 = 400) : CtV l yX12_go cX12_go 5 none { frames := 0, cells := 0, slots := 0, locals := 0 } D cy L κ ln R I J [.ref x] (fun I2 J2 => J = J2 ∧ Fk κ [12] I I2 ∧ (∀ j, j ≠ 6 → j ≠ 7 → I2 x j = I x j) ∧ I2 x 6 = 0 ∧ I2 x 7 = 0) := by
  refine CtV.of (by decide +kernel) (Nat.le_of_ble_eq_true rfl) ?_
  intro p e s m below meth c B K
  have C := B.1
  refine g_lo (is := [0]) (lo2 := [(0, .ref x)]) rfl ?_
  refine g_aload_n C 0 dX12_go_0 rfl rfl ?_
  refine g_getI C K hLx hkx f_12_95 (v := 0) (h5) dX12_go_1 ?_
  refine g_aload_n C 0 dX12_go_4 rfl rfl ?_
  refine g_getI C K hLx hkx f_12_92 (v := 0) (h3) dX12_go_5 ?_
  refine t_icmp_ge C (tgt := 52) (by decide) dX12_go_8 (by decide) ?_
  refine g_aload_n C 0 dX12_go_52 rfl rfl ?_
  refine g_aload_n C 0 dX12_go_53 rfl rfl ?_
  refine g_getI C K hLx hkx f_12_95 (v := 0) (h5) dX12_go_54 ?_
  refine h_putI C K hLx hkx f_12_98 p_12_6 dX12_go_57 (fun I_848 hI_848 => ?_)
  refine g_aload_n C 0 dX12_go_60 rfl rfl ?_
  refine g_getI C K hLx hkx f_12_92 (v := 0) (by rw [hI_848, u2_j (by decide)]; exact h3) dX12_go_61 ?_
  refine g_aload_n C 0 dX12_go_64 rfl rfl ?_
  refine g_getI C K hLx hkx f_12_101 (v := 400) (by rw [hI_848, u2_j (by decide)]; exact h4) dX12_go_65 ?_
  refine t_icmp_le C (tgt := 96) (by decide) dX12_go_68 (by decide) ?_
  refine g_aload_n C 0 dX12_go_96 rfl rfl ?_
  refine g_getI C K hLx hkx f_12_95 (v := 0) (by rw [hI_848, u2_j (by decide)]; exact h5) dX12_go_97 ?_
  refine g_aload_n C 0 dX12_go_100 rfl rfl ?_
  refine g_getI C K hLx hkx f_12_92 (v := 0) (by rw [hI_848, u2_j (by decide)]; exact h3) dX12_go_101 ?_
  refine n_icmp_lt C (tgt := 113) (by decide) dX12_go_104 (by decide) ?_
  refine g_aload_n C 0 dX12_go_107 rfl rfl ?_
  refine g_iconst C (v := 0) dX12_go_108 (by decide) ?_
  refine h_putI C K hLx hkx f_12_104 p_12_7 dX12_go_109 (fun I_849 hI_849 => ?_)
  exact g_vret B K rfl (⟨rfl, ((Fk.rf).u2 hI_848 hkx (by decide)).u2 hI_849 hkx (by decide), fun j h0 h1 => by rw [hI_849, u2_j h1, hI_848, u2_j h0], by rw [hI_849, u2_j (by decide), hI_848]; exact u2_s, by rw [hI_849]; exact u2_s⟩) dX12_go_112
set_option maxRecDepth 100000 in
set_option maxHeartbeats 4000000 in
theorem m_begin0_400 {l : Launch} {D : va_G} {cy : Nat → ClassId} {L : List Nat} {κ ln : Nat → Nat} {R : Nat → Nat → Option Nat} {I : Nat → Nat → Int32} {J : Nat → Nat → Int64} {x : Nat} (hLx : x ∈ L) (hkx : κ x = 12) (h2 : I x 2 = 0) : CtV l yX12_begin cX12_begin 2 none { frames := 1, cells := 0, slots := 0, locals := 100 } D cy L κ ln R I J [.ref x, .int 400] (fun I2 J2 => J = J2 ∧ Fk κ [12] I I2 ∧ I2 x 6 = 0 ∧ I2 x 7 = 0 ∧ I2 x 10 = 0) := by
  refine CtV.of (by decide +kernel) (Nat.le_of_ble_eq_true rfl) ?_
  intro p e s m below meth c B K
  have C := B.1
  refine g_lo (is := [0, 1]) (lo2 := [(0, .ref x), (1, .int 400)]) rfl ?_
  refine g_aload_n C 0 dX12_begin_0 rfl rfl ?_
  refine g_iconst C (v := 0) dX12_begin_1 (by decide) ?_
  refine h_putI C K hLx hkx f_12_82 p_12_0 dX12_begin_2 (fun I_850 hI_850 => ?_)
  refine g_aload_n C 0 dX12_begin_5 rfl rfl ?_
  refine g_aload_n C 0 dX12_begin_6 rfl rfl ?_
  refine g_callVI C K (m_take0 hLx hkx (by rw [hI_850, u2_j (by decide)]; exact h2)) hLx hkx (by decide) rfl v_12_162 rfl ⟨rfl, rfl⟩ ⟨Nat.le_of_ble_eq_true rfl, Nat.le_of_ble_eq_true rfl⟩ (Nat.le_of_ble_eq_true rfl) ⟨Nat.le_of_ble_eq_true rfl, Nat.le_of_ble_eq_true rfl⟩ dX12_begin_7 rfl (st := [.ref x]) (fun r_854 I_851 J_852 h_853 => ?_)
  obtain ⟨rfl, f_855, v_857, rfl⟩ := h_853
  refine h_putI C K hLx hkx f_12_92 p_12_3 dX12_begin_10 (fun I_858 hI_858 => ?_)
  refine g_aload_n C 0 dX12_begin_13 rfl rfl ?_
  refine g_iload_n C 1 dX12_begin_14 rfl rfl ?_
  refine h_putI C K hLx hkx f_12_101 p_12_4 dX12_begin_15 (fun I_859 hI_859 => ?_)
  refine g_aload_n C 0 dX12_begin_18 rfl rfl ?_
  refine g_iconst C (v := 0) dX12_begin_19 (by decide) ?_
  refine h_putI C K hLx hkx f_12_140 p_12_10 dX12_begin_20 (fun I_860 hI_860 => ?_)
  refine g_aload_n C 0 dX12_begin_23 rfl rfl ?_
  refine g_iconst C (v := 0) dX12_begin_24 (by decide) ?_
  refine h_putI C K hLx hkx f_12_95 p_12_5 dX12_begin_25 (fun I_861 hI_861 => ?_)
  refine g_aload_n C 0 dX12_begin_28 rfl rfl ?_
  refine g_callVV C K (m_go0_400 hLx hkx (by rw [hI_861]; exact u2_s) (by rw [hI_861, u2_j (by decide), hI_860, u2_j (by decide), hI_859, u2_j (by decide), hI_858]; exact u2_s) (by rw [hI_861, u2_j (by decide), hI_860, u2_j (by decide), hI_859]; exact u2_s)) hLx hkx (by decide) rfl v_12_156 rfl ⟨rfl, rfl⟩ ⟨Nat.le_of_ble_eq_true rfl, Nat.le_of_ble_eq_true rfl⟩ (Nat.le_of_ble_eq_true rfl) ⟨Nat.le_of_ble_eq_true rfl, Nat.le_of_ble_eq_true rfl⟩ dX12_begin_29 rfl (st := []) (fun I_862 J_863 h_864 => ?_)
  obtain ⟨rfl, f_866, v_868, v_869, v_870⟩ := h_864
  exact g_vret B K rfl (⟨rfl, (((((((Fk.rf).u2 hI_850 hkx (by decide)).tr f_855 (by decide)).u2 hI_858 hkx (by decide)).u2 hI_859 hkx (by decide)).u2 hI_860 hkx (by decide)).u2 hI_861 hkx (by decide)).tr f_866 (by decide), v_869, v_870, by rw [v_868 10 (by decide) (by decide), hI_861, u2_j (by decide), hI_860]; exact u2_s⟩) dX12_begin_32
set_option maxRecDepth 100000 in
set_option maxHeartbeats 4000000 in
theorem m_go0_200 {l : Launch} {D : va_G} {cy : Nat → ClassId} {L : List Nat} {κ ln : Nat → Nat} {R : Nat → Nat → Option Nat} {I : Nat → Nat → Int32} {J : Nat → Nat → Int64} {x : Nat} (hLx : x ∈ L) (hkx : κ x = 12) (h5 : I x 5 = 0) (h3 : I x 3 = 0) (h4 : I x 4 = 200) : CtV l yX12_go cX12_go 5 none { frames := 0, cells := 0, slots := 0, locals := 0 } D cy L κ ln R I J [.ref x] (fun I2 J2 => J = J2 ∧ Fk κ [12] I I2 ∧ (∀ j, j ≠ 6 → j ≠ 7 → I2 x j = I x j) ∧ I2 x 6 = 0 ∧ I2 x 7 = 0) := by
  refine CtV.of (by decide +kernel) (Nat.le_of_ble_eq_true rfl) ?_
  intro p e s m below meth c B K
  have C := B.1
  refine g_lo (is := [0]) (lo2 := [(0, .ref x)]) rfl ?_
  refine g_aload_n C 0 dX12_go_0 rfl rfl ?_
  refine g_getI C K hLx hkx f_12_95 (v := 0) (h5) dX12_go_1 ?_
  refine g_aload_n C 0 dX12_go_4 rfl rfl ?_
  refine g_getI C K hLx hkx f_12_92 (v := 0) (h3) dX12_go_5 ?_
  refine t_icmp_ge C (tgt := 52) (by decide) dX12_go_8 (by decide) ?_
  refine g_aload_n C 0 dX12_go_52 rfl rfl ?_
  refine g_aload_n C 0 dX12_go_53 rfl rfl ?_
  refine g_getI C K hLx hkx f_12_95 (v := 0) (h5) dX12_go_54 ?_
  refine h_putI C K hLx hkx f_12_98 p_12_6 dX12_go_57 (fun I_871 hI_871 => ?_)
  refine g_aload_n C 0 dX12_go_60 rfl rfl ?_
  refine g_getI C K hLx hkx f_12_92 (v := 0) (by rw [hI_871, u2_j (by decide)]; exact h3) dX12_go_61 ?_
  refine g_aload_n C 0 dX12_go_64 rfl rfl ?_
  refine g_getI C K hLx hkx f_12_101 (v := 200) (by rw [hI_871, u2_j (by decide)]; exact h4) dX12_go_65 ?_
  refine t_icmp_le C (tgt := 96) (by decide) dX12_go_68 (by decide) ?_
  refine g_aload_n C 0 dX12_go_96 rfl rfl ?_
  refine g_getI C K hLx hkx f_12_95 (v := 0) (by rw [hI_871, u2_j (by decide)]; exact h5) dX12_go_97 ?_
  refine g_aload_n C 0 dX12_go_100 rfl rfl ?_
  refine g_getI C K hLx hkx f_12_92 (v := 0) (by rw [hI_871, u2_j (by decide)]; exact h3) dX12_go_101 ?_
  refine n_icmp_lt C (tgt := 113) (by decide) dX12_go_104 (by decide) ?_
  refine g_aload_n C 0 dX12_go_107 rfl rfl ?_
  refine g_iconst C (v := 0) dX12_go_108 (by decide) ?_
  refine h_putI C K hLx hkx f_12_104 p_12_7 dX12_go_109 (fun I_872 hI_872 => ?_)
  exact g_vret B K rfl (⟨rfl, ((Fk.rf).u2 hI_871 hkx (by decide)).u2 hI_872 hkx (by decide), fun j h0 h1 => by rw [hI_872, u2_j h1, hI_871, u2_j h0], by rw [hI_872, u2_j (by decide), hI_871]; exact u2_s, by rw [hI_872]; exact u2_s⟩) dX12_go_112
set_option maxRecDepth 100000 in
set_option maxHeartbeats 4000000 in
theorem m_begin0_200 {l : Launch} {D : va_G} {cy : Nat → ClassId} {L : List Nat} {κ ln : Nat → Nat} {R : Nat → Nat → Option Nat} {I : Nat → Nat → Int32} {J : Nat → Nat → Int64} {x : Nat} (hLx : x ∈ L) (hkx : κ x = 12) (h2 : I x 2 = 0) : CtV l yX12_begin cX12_begin 2 none { frames := 1, cells := 0, slots := 0, locals := 100 } D cy L κ ln R I J [.ref x, .int 200] (fun I2 J2 => J = J2 ∧ Fk κ [12] I I2 ∧ I2 x 6 = 0 ∧ I2 x 7 = 0 ∧ I2 x 10 = 0) := by
  refine CtV.of (by decide +kernel) (Nat.le_of_ble_eq_true rfl) ?_
  intro p e s m below meth c B K
  have C := B.1
  refine g_lo (is := [0, 1]) (lo2 := [(0, .ref x), (1, .int 200)]) rfl ?_
  refine g_aload_n C 0 dX12_begin_0 rfl rfl ?_
  refine g_iconst C (v := 0) dX12_begin_1 (by decide) ?_
  refine h_putI C K hLx hkx f_12_82 p_12_0 dX12_begin_2 (fun I_873 hI_873 => ?_)
  refine g_aload_n C 0 dX12_begin_5 rfl rfl ?_
  refine g_aload_n C 0 dX12_begin_6 rfl rfl ?_
  refine g_callVI C K (m_take0 hLx hkx (by rw [hI_873, u2_j (by decide)]; exact h2)) hLx hkx (by decide) rfl v_12_162 rfl ⟨rfl, rfl⟩ ⟨Nat.le_of_ble_eq_true rfl, Nat.le_of_ble_eq_true rfl⟩ (Nat.le_of_ble_eq_true rfl) ⟨Nat.le_of_ble_eq_true rfl, Nat.le_of_ble_eq_true rfl⟩ dX12_begin_7 rfl (st := [.ref x]) (fun r_877 I_874 J_875 h_876 => ?_)
  obtain ⟨rfl, f_878, v_880, rfl⟩ := h_876
  refine h_putI C K hLx hkx f_12_92 p_12_3 dX12_begin_10 (fun I_881 hI_881 => ?_)
  refine g_aload_n C 0 dX12_begin_13 rfl rfl ?_
  refine g_iload_n C 1 dX12_begin_14 rfl rfl ?_
  refine h_putI C K hLx hkx f_12_101 p_12_4 dX12_begin_15 (fun I_882 hI_882 => ?_)
  refine g_aload_n C 0 dX12_begin_18 rfl rfl ?_
  refine g_iconst C (v := 0) dX12_begin_19 (by decide) ?_
  refine h_putI C K hLx hkx f_12_140 p_12_10 dX12_begin_20 (fun I_883 hI_883 => ?_)
  refine g_aload_n C 0 dX12_begin_23 rfl rfl ?_
  refine g_iconst C (v := 0) dX12_begin_24 (by decide) ?_
  refine h_putI C K hLx hkx f_12_95 p_12_5 dX12_begin_25 (fun I_884 hI_884 => ?_)
  refine g_aload_n C 0 dX12_begin_28 rfl rfl ?_
  refine g_callVV C K (m_go0_200 hLx hkx (by rw [hI_884]; exact u2_s) (by rw [hI_884, u2_j (by decide), hI_883, u2_j (by decide), hI_882, u2_j (by decide), hI_881]; exact u2_s) (by rw [hI_884, u2_j (by decide), hI_883, u2_j (by decide), hI_882]; exact u2_s)) hLx hkx (by decide) rfl v_12_156 rfl ⟨rfl, rfl⟩ ⟨Nat.le_of_ble_eq_true rfl, Nat.le_of_ble_eq_true rfl⟩ (Nat.le_of_ble_eq_true rfl) ⟨Nat.le_of_ble_eq_true rfl, Nat.le_of_ble_eq_true rfl⟩ dX12_begin_29 rfl (st := []) (fun I_885 J_886 h_887 => ?_)
  obtain ⟨rfl, f_889, v_891, v_892, v_893⟩ := h_887
  exact g_vret B K rfl (⟨rfl, (((((((Fk.rf).u2 hI_873 hkx (by decide)).tr f_878 (by decide)).u2 hI_881 hkx (by decide)).u2 hI_882 hkx (by decide)).u2 hI_883 hkx (by decide)).u2 hI_884 hkx (by decide)).tr f_889 (by decide), v_892, v_893, by rw [v_891 10 (by decide) (by decide), hI_884, u2_j (by decide), hI_883]; exact u2_s⟩) dX12_begin_32
set_option maxRecDepth 100000 in
set_option maxHeartbeats 4000000 in
theorem m_startSo {l : Launch} {D : va_G} {cy : Nat → ClassId} {L : List Nat} {κ ln : Nat → Nat} {R : Nat → Nat → Option Nat} {I : Nat → Nat → Int32} {J : Nat → Nat → Int64} {ow : Nat → Nat × Nat} (W9 : ∀ a ∈ L, Shp L κ ln R ow a) {x : Nat} (hLx : x ∈ L) (hkx : κ x = 12)  : CtV l yX12_startSo cX12_startSo 2 none { frames := 0, cells := 0, slots := 0, locals := 0 } D cy L κ ln R I J [.ref x] (fun I2 J2 => J = J2 ∧ Fk κ [14] I I2) := by
  refine CtV.of (by decide +kernel) (Nat.le_of_ble_eq_true rfl) ?_
  intro p e s m below meth c B K
  have C := B.1
  refine g_lo (is := [0]) (lo2 := [(0, .ref x)]) rfl ?_
  refine g_bipush C (v := 72) dX12_startSo_0 (by decide) ?_
  refine g_istore_n C dX12_startSo_2 rfl (by decide) (lo2 := [(1, .int 72), (0, .ref x)]) rfl ?_
  have lp_901 : ∀ (n_897 i_896 : Nat) (I_894 : Nat → Nat → Int32) (J_895 : Nat → Nat → Int64), i_896 + n_897 = 389 → J = J_895 → Fk κ [14] I I_894 → WG p l e { frames := 0, cells := 0, slots := 0, locals := 0 } s m ([.ref x] : List Value).toArray below meth c 2 0 0 (MQ below (Qv_ D cy L κ ln R (fun I2 J2 => J = J2 ∧ Fk κ [14] I I2)) ([.ref x] : List Value).toArray s 0 0 (Al_ L)) D cy (Al_ L) s.heap L κ ln R I_894 J_895 3 [(1, .int (nI i_896)), (0, .ref x)] [] := by
    intro n_897
    induction n_897 with
    | zero =>
      intro i_896 I_894 J_895 hi_900 e9 F_898
      subst e9
      refine g_iload_n C 0 dX12_startSo_3 rfl rfl ?_
      refine g_sipush C (v := 389) dX12_startSo_4 (by decide) ?_
      refine t_icmp_ge C (tgt := 23) (lt_ge (n := i_896) (k := 389) (by omega) (by omega)) dX12_startSo_7 (by decide) ?_
      refine g_iconst C (v := 0) dX12_startSo_23 (by decide) ?_
      refine g_istore_n C dX12_startSo_24 rfl (by decide) (lo2 := [(1, .int 0), (0, .ref x)]) rfl ?_
      have lp_909 : ∀ (n_905 i_904 : Nat) (I_902 : Nat → Nat → Int32) (J_903 : Nat → Nat → Int64), i_904 + n_905 = 6 → J = J_903 → Fk κ [14] I_894 I_902 → WG p l e { frames := 0, cells := 0, slots := 0, locals := 0 } s m ([.ref x] : List Value).toArray below meth c 2 0 0 (MQ below (Qv_ D cy L κ ln R (fun I2 J2 => J = J2 ∧ Fk κ [14] I I2)) ([.ref x] : List Value).toArray s 0 0 (Al_ L)) D cy (Al_ L) s.heap L κ ln R I_902 J_903 25 [(1, .int (nI i_904)), (0, .ref x)] [] := by
        intro n_905
        induction n_905 with
        | zero =>
          intro i_904 I_902 J_903 hi_908 e9 F_906
          subst e9
          refine g_iload_n C 0 dX12_startSo_25 rfl rfl ?_
          refine g_bipush C (v := 6) dX12_startSo_26 (by decide) ?_
          refine t_icmp_ge C (tgt := 55) (lt_ge (n := i_904) (k := 6) (by omega) (by omega)) dX12_startSo_28 (by decide) ?_
          refine g_iconst C (v := 0) dX12_startSo_55 (by decide) ?_
          refine g_istore_n C dX12_startSo_56 rfl (by decide) (lo2 := [(1, .int 0), (0, .ref x)]) rfl ?_
          have lp_917 : ∀ (n_913 i_912 : Nat) (I_910 : Nat → Nat → Int32) (J_911 : Nat → Nat → Int64), i_912 + n_913 = 42 → J = J_911 → Fk κ [14] I_902 I_910 → WG p l e { frames := 0, cells := 0, slots := 0, locals := 0 } s m ([.ref x] : List Value).toArray below meth c 2 0 0 (MQ below (Qv_ D cy L κ ln R (fun I2 J2 => J = J2 ∧ Fk κ [14] I I2)) ([.ref x] : List Value).toArray s 0 0 (Al_ L)) D cy (Al_ L) s.heap L κ ln R I_910 J_911 57 [(1, .int (nI i_912)), (0, .ref x)] [] := by
            intro n_913
            induction n_913 with
            | zero =>
              intro i_912 I_910 J_911 hi_916 e9 F_914
              subst e9
              refine g_iload_n C 0 dX12_startSo_57 rfl rfl ?_
              refine g_bipush C (v := 42) dX12_startSo_58 (by decide) ?_
              refine t_icmp_ge C (tgt := 87) (lt_ge (n := i_912) (k := 42) (by omega) (by omega)) dX12_startSo_60 (by decide) ?_
              exact g_vret B K rfl (⟨rfl, (((Fk.rf).tr F_898 (by decide)).tr F_906 (by decide)).tr F_914 (by decide)⟩) dX12_startSo_87
            | succ n_913 ihn_913 =>
              intro i_912 I_910 J_911 hi_916 e9 F_914
              subst e9
              refine g_iload_n C 0 dX12_startSo_57 rfl rfl ?_
              refine g_bipush C (v := 42) dX12_startSo_58 (by decide) ?_
              refine n_icmp_ge C (tgt := 87) (ln_ge (n := i_912) (k := 42) (by omega) (by omega)) dX12_startSo_60 (by decide) ?_
              refine g_aload_n C 1 dX12_startSo_63 rfl rfl ?_
              obtain ⟨b_918, hb_918, hb_918L, hb_918k, hb_918n, hb_918o⟩ := shp_a (W9 x hLx) hkx 14 14 389 rfl (by decide)
              refine g_getR C K hLx hkx f_12_13 hb_918 dX12_startSo_64 ?_
              refine g_bipush C (v := 105) dX12_startSo_67 (by decide) ?_
              refine g_iload_n C 0 dX12_startSo_69 rfl rfl ?_
              refine g_iadd C (v := nI (105 + i_912)) dX12_startSo_70 (nI_add 105 (i_912)) ?_
              refine g_aload_n C 1 dX12_startSo_71 rfl rfl ?_
              refine g_getR C K hLx hkx f_12_13 hb_918 dX12_startSo_72 ?_
              refine g_bipush C (v := 30) dX12_startSo_75 (by decide) ?_
              refine g_iload_n C 0 dX12_startSo_77 rfl rfl ?_
              refine g_iadd C (v := nI (30 + i_912)) dX12_startSo_78 (nI_add 30 (i_912)) ?_
              obtain ⟨x_919, hx_919⟩ : ∃ z, I_910 b_918 (30 + i_912) = z := ⟨_, rfl⟩
              refine h_iald C K hb_918L hb_918k (v := x_919) (30 + i_912) (nI_clamp (by omega)) (nI_pos (by omega)) (by rw [hb_918n]; omega) (hx_919) dX12_startSo_79 ?_
              refine h_iast C K hb_918L hb_918k (105 + i_912) (nI_clamp (by omega)) (nI_pos (by omega)) (by rw [hb_918n]; omega) dX12_startSo_80 (fun I_920 hI_920 => ?_)
              refine g_iinc C dX12_startSo_81 (k := 0) (v := nI (i_912 + 1)) rfl (nI_1 (i_912)) (by decide) (lo2 := [(1, .int (nI (i_912 + 1))), (0, .ref x)]) rfl ?_
              refine g_goto C (tgt := 57) dX12_startSo_84 (by decide) ?_
              refine g_lo (is := [0, 1]) (lo2 := [(1, .int (nI (i_912 + 1))), (0, .ref x)]) rfl ?_
              exact ihn_913 (i_912 + 1) I_920 J (by omega) rfl ((F_914).u2 hI_920 hb_918k (by decide))
          exact lp_917 (42 - 0) 0 I_902 J (by omega) rfl Fk.rf
        | succ n_905 ihn_905 =>
          intro i_904 I_902 J_903 hi_908 e9 F_906
          subst e9
          refine g_iload_n C 0 dX12_startSo_25 rfl rfl ?_
          refine g_bipush C (v := 6) dX12_startSo_26 (by decide) ?_
          refine n_icmp_ge C (tgt := 55) (ln_ge (n := i_904) (k := 6) (by omega) (by omega)) dX12_startSo_28 (by decide) ?_
          refine g_aload_n C 1 dX12_startSo_31 rfl rfl ?_
          obtain ⟨b_921, hb_921, hb_921L, hb_921k, hb_921n, hb_921o⟩ := shp_a (W9 x hLx) hkx 14 14 389 rfl (by decide)
          refine g_getR C K hLx hkx f_12_13 hb_921 dX12_startSo_32 ?_
          refine g_bipush C (v := 78) dX12_startSo_35 (by decide) ?_
          refine g_iload_n C 0 dX12_startSo_37 rfl rfl ?_
          refine g_iadd C (v := nI (78 + i_904)) dX12_startSo_38 (nI_add 78 (i_904)) ?_
          refine g_aload_n C 1 dX12_startSo_39 rfl rfl ?_
          refine g_getR C K hLx hkx f_12_13 hb_921 dX12_startSo_40 ?_
          refine g_bipush C (v := 18) dX12_startSo_43 (by decide) ?_
          refine g_iload_n C 0 dX12_startSo_45 rfl rfl ?_
          refine g_iadd C (v := nI (18 + i_904)) dX12_startSo_46 (nI_add 18 (i_904)) ?_
          obtain ⟨x_922, hx_922⟩ : ∃ z, I_902 b_921 (18 + i_904) = z := ⟨_, rfl⟩
          refine h_iald C K hb_921L hb_921k (v := x_922) (18 + i_904) (nI_clamp (by omega)) (nI_pos (by omega)) (by rw [hb_921n]; omega) (hx_922) dX12_startSo_47 ?_
          refine h_iast C K hb_921L hb_921k (78 + i_904) (nI_clamp (by omega)) (nI_pos (by omega)) (by rw [hb_921n]; omega) dX12_startSo_48 (fun I_923 hI_923 => ?_)
          refine g_iinc C dX12_startSo_49 (k := 0) (v := nI (i_904 + 1)) rfl (nI_1 (i_904)) (by decide) (lo2 := [(1, .int (nI (i_904 + 1))), (0, .ref x)]) rfl ?_
          refine g_goto C (tgt := 25) dX12_startSo_52 (by decide) ?_
          refine g_lo (is := [0, 1]) (lo2 := [(1, .int (nI (i_904 + 1))), (0, .ref x)]) rfl ?_
          exact ihn_905 (i_904 + 1) I_923 J (by omega) rfl ((F_906).u2 hI_923 hb_921k (by decide))
      exact lp_909 (6 - 0) 0 I_894 J (by omega) rfl Fk.rf
    | succ n_897 ihn_897 =>
      intro i_896 I_894 J_895 hi_900 e9 F_898
      subst e9
      refine g_iload_n C 0 dX12_startSo_3 rfl rfl ?_
      refine g_sipush C (v := 389) dX12_startSo_4 (by decide) ?_
      refine n_icmp_ge C (tgt := 23) (ln_ge (n := i_896) (k := 389) (by omega) (by omega)) dX12_startSo_7 (by decide) ?_
      refine g_aload_n C 1 dX12_startSo_10 rfl rfl ?_
      obtain ⟨b_924, hb_924, hb_924L, hb_924k, hb_924n, hb_924o⟩ := shp_a (W9 x hLx) hkx 14 14 389 rfl (by decide)
      refine g_getR C K hLx hkx f_12_13 hb_924 dX12_startSo_11 ?_
      refine g_iload_n C 0 dX12_startSo_14 rfl rfl ?_
      refine g_iconst C (v := 0) dX12_startSo_15 (by decide) ?_
      refine h_iast C K hb_924L hb_924k (i_896) (nI_clamp (by omega)) (nI_pos (by omega)) (by rw [hb_924n]; omega) dX12_startSo_16 (fun I_925 hI_925 => ?_)
      refine g_iinc C dX12_startSo_17 (k := 0) (v := nI (i_896 + 1)) rfl (nI_1 (i_896)) (by decide) (lo2 := [(1, .int (nI (i_896 + 1))), (0, .ref x)]) rfl ?_
      refine g_goto C (tgt := 3) dX12_startSo_20 (by decide) ?_
      refine g_lo (is := [0, 1]) (lo2 := [(1, .int (nI (i_896 + 1))), (0, .ref x)]) rfl ?_
      exact ihn_897 (i_896 + 1) I_925 J (by omega) rfl ((F_898).u2 hI_925 hb_924k (by decide))
  exact lp_901 (389 - 72) 72 I J (by omega) rfl Fk.rf
set_option maxRecDepth 100000 in
set_option maxHeartbeats 4000000 in
theorem m_layAside {l : Launch} {D : va_G} {cy : Nat → ClassId} {L : List Nat} {κ ln : Nat → Nat} {R : Nat → Nat → Option Nat} {I : Nat → Nat → Int32} {J : Nat → Nat → Int64} {ow : Nat → Nat × Nat} (W9 : ∀ a ∈ L, Shp L κ ln R ow a) {x : Nat} (hLx : x ∈ L) (hkx : κ x = 12)  : CtV l yX12_layAside cX12_layAside 2 none { frames := 0, cells := 0, slots := 0, locals := 0 } D cy L κ ln R I J [.ref x] (fun I2 J2 => J = J2 ∧ Fk κ [14] I I2) := by
  refine CtV.of (by decide +kernel) (Nat.le_of_ble_eq_true rfl) ?_
  intro p e s m below meth c B K
  have C := B.1
  refine g_lo (is := [0]) (lo2 := [(0, .ref x)]) rfl ?_
  refine g_iconst C (v := 0) dX12_layAside_0 (by decide) ?_
  refine g_istore_n C dX12_layAside_1 rfl (by decide) (lo2 := [(1, .int 0), (0, .ref x)]) rfl ?_
  have lp_933 : ∀ (n_929 i_928 : Nat) (I_926 : Nat → Nat → Int32) (J_927 : Nat → Nat → Int64), i_928 + n_929 = 75 → J = J_927 → Fk κ [14] I I_926 → WG p l e { frames := 0, cells := 0, slots := 0, locals := 0 } s m ([.ref x] : List Value).toArray below meth c 2 0 0 (MQ below (Qv_ D cy L κ ln R (fun I2 J2 => J = J2 ∧ Fk κ [14] I I2)) ([.ref x] : List Value).toArray s 0 0 (Al_ L)) D cy (Al_ L) s.heap L κ ln R I_926 J_927 2 [(1, .int (nI i_928)), (0, .ref x)] [] := by
    intro n_929
    induction n_929 with
    | zero =>
      intro i_928 I_926 J_927 hi_932 e9 F_930
      subst e9
      refine g_iload_n C 0 dX12_layAside_2 rfl rfl ?_
      refine g_bipush C (v := 75) dX12_layAside_3 (by decide) ?_
      refine t_icmp_ge C (tgt := 29) (lt_ge (n := i_928) (k := 75) (by omega) (by omega)) dX12_layAside_5 (by decide) ?_
      exact g_vret B K rfl (⟨rfl, (Fk.rf).tr F_930 (by decide)⟩) dX12_layAside_29
    | succ n_929 ihn_929 =>
      intro i_928 I_926 J_927 hi_932 e9 F_930
      subst e9
      refine g_iload_n C 0 dX12_layAside_2 rfl rfl ?_
      refine g_bipush C (v := 75) dX12_layAside_3 (by decide) ?_
      refine n_icmp_ge C (tgt := 29) (ln_ge (n := i_928) (k := 75) (by omega) (by omega)) dX12_layAside_5 (by decide) ?_
      refine g_aload_n C 1 dX12_layAside_8 rfl rfl ?_
      obtain ⟨b_934, hb_934, hb_934L, hb_934k, hb_934n, hb_934o⟩ := shp_a (W9 x hLx) hkx 18 14 75 rfl (by decide)
      refine g_getR C K hLx hkx f_12_25 hb_934 dX12_layAside_9 ?_
      refine g_iload_n C 0 dX12_layAside_12 rfl rfl ?_
      refine g_aload_n C 1 dX12_layAside_13 rfl rfl ?_
      obtain ⟨b_935, hb_935, hb_935L, hb_935k, hb_935n, hb_935o⟩ := shp_a (W9 x hLx) hkx 14 14 389 rfl (by decide)
      refine g_getR C K hLx hkx f_12_13 hb_935 dX12_layAside_14 ?_
      refine g_bipush C (v := 72) dX12_layAside_17 (by decide) ?_
      refine g_iload_n C 0 dX12_layAside_19 rfl rfl ?_
      refine g_iadd C (v := nI (72 + i_928)) dX12_layAside_20 (nI_add 72 (i_928)) ?_
      obtain ⟨x_936, hx_936⟩ : ∃ z, I_926 b_935 (72 + i_928) = z := ⟨_, rfl⟩
      refine h_iald C K hb_935L hb_935k (v := x_936) (72 + i_928) (nI_clamp (by omega)) (nI_pos (by omega)) (by rw [hb_935n]; omega) (hx_936) dX12_layAside_21 ?_
      refine h_iast C K hb_934L hb_934k (i_928) (nI_clamp (by omega)) (nI_pos (by omega)) (by rw [hb_934n]; omega) dX12_layAside_22 (fun I_937 hI_937 => ?_)
      refine g_iinc C dX12_layAside_23 (k := 0) (v := nI (i_928 + 1)) rfl (nI_1 (i_928)) (by decide) (lo2 := [(1, .int (nI (i_928 + 1))), (0, .ref x)]) rfl ?_
      refine g_goto C (tgt := 2) dX12_layAside_26 (by decide) ?_
      refine g_lo (is := [0, 1]) (lo2 := [(1, .int (nI (i_928 + 1))), (0, .ref x)]) rfl ?_
      exact ihn_929 (i_928 + 1) I_937 J (by omega) rfl ((F_930).u2 hI_937 hb_934k (by decide))
  exact lp_933 (75 - 0) 0 I J (by omega) rfl Fk.rf
set_option maxRecDepth 100000 in
set_option maxHeartbeats 4000000 in
theorem m_stay0 {l : Launch} {D : va_G} {cy : Nat → ClassId} {L : List Nat} {κ ln : Nat → Nat} {R : Nat → Nat → Option Nat} {I : Nat → Nat → Int32} {J : Nat → Nat → Int64} {ow : Nat → Nat × Nat} (W9 : ∀ a ∈ L, Shp L κ ln R ow a) {x : Nat} (hLx : x ∈ L) (hkx : κ x = 12)  : CtV l yX12_stay cX12_stay 4 none { frames := 0, cells := 0, slots := 0, locals := 0 } D cy L κ ln R I J [.ref x, .int 0] (fun I2 J2 => J = J2 ∧ Fk κ [14] I I2) := by
  refine CtV.of (by decide +kernel) (Nat.le_of_ble_eq_true rfl) ?_
  intro p e s m below meth c B K
  have C := B.1
  refine g_lo (is := [0, 1]) (lo2 := [(0, .ref x), (1, .int 0)]) rfl ?_
  refine g_iconst C (v := 0) dX12_stay_0 (by decide) ?_
  refine g_istore_n C dX12_stay_1 rfl (by decide) (lo2 := [(2, .int 0), (0, .ref x), (1, .int 0)]) rfl ?_
  have lp_945 : ∀ (n_941 i_940 : Nat) (I_938 : Nat → Nat → Int32) (J_939 : Nat → Nat → Int64), i_940 + n_941 = 75 → J = J_939 → Fk κ [14] I I_938 → WG p l e { frames := 0, cells := 0, slots := 0, locals := 0 } s m ([.ref x, .int 0] : List Value).toArray below meth c 4 0 0 (MQ below (Qv_ D cy L κ ln R (fun I2 J2 => J = J2 ∧ Fk κ [14] I I2)) ([.ref x, .int 0] : List Value).toArray s 0 0 (Al_ L)) D cy (Al_ L) s.heap L κ ln R I_938 J_939 2 [(2, .int (nI i_940)), (0, .ref x), (1, .int 0)] [] := by
    intro n_941
    induction n_941 with
    | zero =>
      intro i_940 I_938 J_939 hi_944 e9 F_942
      subst e9
      refine g_iload_n C 0 dX12_stay_2 rfl rfl ?_
      refine g_bipush C (v := 75) dX12_stay_3 (by decide) ?_
      refine t_icmp_ge C (tgt := 46) (lt_ge (n := i_940) (k := 75) (by omega) (by omega)) dX12_stay_5 (by decide) ?_
      refine g_iload_n C 2 dX12_stay_46 rfl rfl ?_
      refine n_if_ne C (tgt := 51) (by decide) dX12_stay_47 (by decide) ?_
      exact g_vret B K rfl (⟨rfl, (Fk.rf).tr F_942 (by decide)⟩) dX12_stay_50
    | succ n_941 ihn_941 =>
      intro i_940 I_938 J_939 hi_944 e9 F_942
      subst e9
      refine g_iload_n C 0 dX12_stay_2 rfl rfl ?_
      refine g_bipush C (v := 75) dX12_stay_3 (by decide) ?_
      refine n_icmp_ge C (tgt := 46) (ln_ge (n := i_940) (k := 75) (by omega) (by omega)) dX12_stay_5 (by decide) ?_
      refine g_aload_n C 1 dX12_stay_8 rfl rfl ?_
      obtain ⟨b_946, hb_946, hb_946L, hb_946k, hb_946n, hb_946o⟩ := shp_a (W9 x hLx) hkx 14 14 389 rfl (by decide)
      refine g_getR C K hLx hkx f_12_13 hb_946 dX12_stay_9 ?_
      refine g_bipush C (v := 72) dX12_stay_12 (by decide) ?_
      refine g_iload_n C 0 dX12_stay_14 rfl rfl ?_
      refine g_iadd C (v := nI (72 + i_940)) dX12_stay_15 (nI_add 72 (i_940)) ?_
      obtain ⟨x_947, hx_947⟩ : ∃ z, I_938 b_946 (72 + i_940) = z := ⟨_, rfl⟩
      refine h_iald C K hb_946L hb_946k (v := x_947) (72 + i_940) (nI_clamp (by omega)) (nI_pos (by omega)) (by rw [hb_946n]; omega) (hx_947) dX12_stay_16 ?_
      refine g_istore_n C dX12_stay_17 rfl (by decide) (lo2 := [(3, .int x_947), (2, .int (nI i_940)), (0, .ref x), (1, .int 0)]) rfl ?_
      refine g_aload_n C 2 dX12_stay_18 rfl rfl ?_
      refine g_getR C K hLx hkx f_12_13 hb_946 dX12_stay_19 ?_
      refine g_bipush C (v := 72) dX12_stay_22 (by decide) ?_
      refine g_iload_n C 1 dX12_stay_24 rfl rfl ?_
      refine g_iadd C (v := nI (72 + i_940)) dX12_stay_25 (nI_add 72 (i_940)) ?_
      refine g_aload_n C 2 dX12_stay_26 rfl rfl ?_
      obtain ⟨b_948, hb_948, hb_948L, hb_948k, hb_948n, hb_948o⟩ := shp_a (W9 x hLx) hkx 18 14 75 rfl (by decide)
      refine g_getR C K hLx hkx f_12_25 hb_948 dX12_stay_27 ?_
      refine g_iload_n C 1 dX12_stay_30 rfl rfl ?_
      obtain ⟨x_949, hx_949⟩ : ∃ z, I_938 b_948 (i_940) = z := ⟨_, rfl⟩
      refine h_iald C K hb_948L hb_948k (v := x_949) (i_940) (nI_clamp (by omega)) (nI_pos (by omega)) (by rw [hb_948n]; omega) (hx_949) dX12_stay_31 ?_
      refine h_iast C K hb_946L hb_946k (72 + i_940) (nI_clamp (by omega)) (nI_pos (by omega)) (by rw [hb_946n]; omega) dX12_stay_32 (fun I_950 hI_950 => ?_)
      refine g_aload_n C 2 dX12_stay_33 rfl rfl ?_
      refine g_getR C K hLx hkx f_12_25 hb_948 dX12_stay_34 ?_
      refine g_iload_n C 1 dX12_stay_37 rfl rfl ?_
      refine g_iload_n C 0 dX12_stay_38 rfl rfl ?_
      refine h_iast C K hb_948L hb_948k (i_940) (nI_clamp (by omega)) (nI_pos (by omega)) (by rw [hb_948n]; omega) dX12_stay_39 (fun I_951 hI_951 => ?_)
      refine g_iinc C dX12_stay_40 (k := 1) (v := nI (i_940 + 1)) rfl (nI_1 (i_940)) (by decide) (lo2 := [(2, .int (nI (i_940 + 1))), (3, .int x_947), (0, .ref x), (1, .int 0)]) rfl ?_
      refine g_goto C (tgt := 2) dX12_stay_43 (by decide) ?_
      refine g_lo (is := [0, 2, 3]) (lo2 := [(2, .int (nI (i_940 + 1))), (0, .ref x), (1, .int 0)]) rfl ?_
      exact ihn_941 (i_940 + 1) I_951 J (by omega) rfl (((F_942).u2 hI_950 hb_946k (by decide)).u2 hI_951 hb_948k (by decide))
  exact lp_945 (75 - 0) 0 I J (by omega) rfl Fk.rf
set_option maxRecDepth 100000 in
set_option maxHeartbeats 4000000 in
theorem m_snap0 {l : Launch} {D : va_G} {cy : Nat → ClassId} {L : List Nat} {κ ln : Nat → Nat} {R : Nat → Nat → Option Nat} {I : Nat → Nat → Int32} {J : Nat → Nat → Int64} {ow : Nat → Nat × Nat} (W9 : ∀ a ∈ L, Shp L κ ln R ow a) {x : Nat} (hLx : x ∈ L) (hkx : κ x = 12) (h23 : I x 23 = 0) (Z14 : Zk L κ 14 I) : CtV l yX12_snap cX12_snap 2 none { frames := 0, cells := 0, slots := 0, locals := 0 } D cy L κ ln R I J [.ref x] (fun I2 J2 => J = J2 ∧ Fk κ [12, 14] I I2 ∧ Zk L κ 14 I2) := by
  refine CtV.of (by decide +kernel) (Nat.le_of_ble_eq_true rfl) ?_
  intro p e s m below meth c B K
  have C := B.1
  refine g_lo (is := [0]) (lo2 := [(0, .ref x)]) rfl ?_
  refine g_aload_n C 0 dX12_snap_0 rfl rfl ?_
  refine g_getI C K hLx hkx f_12_228 (v := 0) (h23) dX12_snap_1 ?_
  refine g_bipush C (v := 8) dX12_snap_4 (by decide) ?_
  refine t_icmp_ne C (tgt := 49) (by decide) dX12_snap_6 (by decide) ?_
  refine g_iconst C (v := 0) dX12_snap_49 (by decide) ?_
  refine g_istore_n C dX12_snap_50 rfl (by decide) (lo2 := [(1, .int 0), (0, .ref x)]) rfl ?_
  have lp_960 : ∀ (n_955 i_954 : Nat) (I_952 : Nat → Nat → Int32) (J_953 : Nat → Nat → Int64), i_954 + n_955 = 75 → J = J_953 → Fk κ [14] I I_952 → Zk L κ 14 I_952 → WG p l e { frames := 0, cells := 0, slots := 0, locals := 0 } s m ([.ref x] : List Value).toArray below meth c 2 0 0 (MQ below (Qv_ D cy L κ ln R (fun I2 J2 => J = J2 ∧ Fk κ [12, 14] I I2 ∧ Zk L κ 14 I2)) ([.ref x] : List Value).toArray s 0 0 (Al_ L)) D cy (Al_ L) s.heap L κ ln R I_952 J_953 51 [(1, .int (nI i_954)), (0, .ref x)] [] := by
    intro n_955
    induction n_955 with
    | zero =>
      intro i_954 I_952 J_953 hi_958 e9 F_956 z_959
      subst e9
      refine g_iload_n C 0 dX12_snap_51 rfl rfl ?_
      refine g_bipush C (v := 75) dX12_snap_52 (by decide) ?_
      refine t_icmp_ge C (tgt := 86) (lt_ge (n := i_954) (k := 75) (by omega) (by omega)) dX12_snap_54 (by decide) ?_
      refine g_aload_n C 1 dX12_snap_86 rfl rfl ?_
      refine g_dup C dX12_snap_87 rfl ?_
      refine g_getI C K hLx hkx f_12_228 (v := 0) (by rw [F_956 x 23 (by rw [hkx]; decide)]; exact h23) dX12_snap_88 ?_
      refine g_iconst C (v := 1) dX12_snap_91 (by decide) ?_
      refine g_iadd C (v := 1) dX12_snap_92 (by decide) ?_
      refine h_putI C K hLx hkx f_12_228 p_12_23 dX12_snap_93 (fun I_961 hI_961 => ?_)
      exact g_vret B K rfl (⟨rfl, ((Fk.rf).tr F_956 (by decide)).u2 hI_961 hkx (by decide), (z_959).u2k hI_961 hkx (by decide)⟩) dX12_snap_96
    | succ n_955 ihn_955 =>
      intro i_954 I_952 J_953 hi_958 e9 F_956 z_959
      subst e9
      refine g_iload_n C 0 dX12_snap_51 rfl rfl ?_
      refine g_bipush C (v := 75) dX12_snap_52 (by decide) ?_
      refine n_icmp_ge C (tgt := 86) (ln_ge (n := i_954) (k := 75) (by omega) (by omega)) dX12_snap_54 (by decide) ?_
      refine g_aload_n C 1 dX12_snap_57 rfl rfl ?_
      obtain ⟨b_962, hb_962, hb_962L, hb_962k, hb_962n, hb_962o⟩ := shp_a (W9 x hLx) hkx 17 14 600 rfl (by decide)
      refine g_getR C K hLx hkx f_12_22 hb_962 dX12_snap_58 ?_
      refine g_bipush C (v := 75) dX12_snap_61 (by decide) ?_
      refine g_aload_n C 1 dX12_snap_63 rfl rfl ?_
      refine g_getI C K hLx hkx f_12_228 (v := 0) (by rw [F_956 x 23 (by rw [hkx]; decide)]; exact h23) dX12_snap_64 ?_
      refine g_imul C (v := 0) dX12_snap_67 (by decide) ?_
      refine g_iload_n C 0 dX12_snap_68 rfl rfl ?_
      refine g_iadd C (v := nI (0 + i_954)) dX12_snap_69 (nI_add 0 (i_954)) ?_
      refine g_aload_n C 1 dX12_snap_70 rfl rfl ?_
      obtain ⟨b_963, hb_963, hb_963L, hb_963k, hb_963n, hb_963o⟩ := shp_a (W9 x hLx) hkx 14 14 389 rfl (by decide)
      refine g_getR C K hLx hkx f_12_13 hb_963 dX12_snap_71 ?_
      refine g_bipush C (v := 72) dX12_snap_74 (by decide) ?_
      refine g_iload_n C 0 dX12_snap_76 rfl rfl ?_
      refine g_iadd C (v := nI (72 + i_954)) dX12_snap_77 (nI_add 72 (i_954)) ?_
      refine h_iald C K hb_963L hb_963k (v := 0) (72 + i_954) (nI_clamp (by omega)) (nI_pos (by omega)) (by rw [hb_963n]; omega) (z_959 b_963 hb_963L hb_963k (72 + i_954)) dX12_snap_78 ?_
      refine h_iast C K hb_962L hb_962k (0 + i_954) (nI_clamp (by omega)) (nI_pos (by omega)) (by rw [hb_962n]; omega) dX12_snap_79 (fun I_964 hI_964 => ?_)
      refine g_iinc C dX12_snap_80 (k := 0) (v := nI (i_954 + 1)) rfl (nI_1 (i_954)) (by decide) (lo2 := [(1, .int (nI (i_954 + 1))), (0, .ref x)]) rfl ?_
      refine g_goto C (tgt := 51) dX12_snap_83 (by decide) ?_
      refine g_lo (is := [0, 1]) (lo2 := [(1, .int (nI (i_954 + 1))), (0, .ref x)]) rfl ?_
      exact ihn_955 (i_954 + 1) I_964 J (by omega) rfl ((F_956).u2 hI_964 hb_962k (by decide)) ((z_959).u2 hI_964 rfl)
  exact lp_960 (75 - 0) 0 I J (by omega) rfl Fk.rf (Z14)
set_option maxRecDepth 100000 in
set_option maxHeartbeats 4000000 in
theorem m_oneMeal0 {l : Launch} {D : va_G} {cy : Nat → ClassId} {L : List Nat} {κ ln : Nat → Nat} {R : Nat → Nat → Option Nat} {I : Nat → Nat → Int32} {J : Nat → Nat → Int64} {ow : Nat → Nat × Nat} (W9 : ∀ a ∈ L, Shp L κ ln R ow a) {x : Nat} (hLx : x ∈ L) (hkx : κ x = 12) (h0 : ∀ b, R x 14 = some b → I b 0 = 0) (n : Nat) (h72 : ∀ b, R x 14 = some b → I b 72 = nI n) : CtV l yX12_oneMeal cX12_oneMeal 4 none { frames := 0, cells := 0, slots := 0, locals := 0 } D cy L κ ln R I J [.ref x] (fun I2 J2 => J = J2 ∧ Fk κ [14] I I2 ∧ (∀ b, R x 14 = some b → I2 b 0 = 0) ∧ (∀ b, R x 14 = some b → I2 b 72 = nI (n + 1))) := by
  refine CtV.of (by decide +kernel) (Nat.le_of_ble_eq_true rfl) ?_
  intro p e s m below meth c B K
  have C := B.1
  refine g_lo (is := [0]) (lo2 := [(0, .ref x)]) rfl ?_
  refine g_iconst C (v := 0) dX12_oneMeal_0 (by decide) ?_
  refine g_istore_n C dX12_oneMeal_1 rfl (by decide) (lo2 := [(1, .int 0), (0, .ref x)]) rfl ?_
  refine g_iload_n C 0 dX12_oneMeal_2 rfl rfl ?_
  refine g_aload_n C 1 dX12_oneMeal_3 rfl rfl ?_
  obtain ⟨b_965, hb_965, hb_965L, hb_965k, hb_965n, hb_965o⟩ := shp_a (W9 x hLx) hkx 14 14 389 rfl (by decide)
  refine g_getR C K hLx hkx f_12_13 hb_965 dX12_oneMeal_4 ?_
  refine g_iconst C (v := 0) dX12_oneMeal_7 (by decide) ?_
  refine h_iald C K hb_965L hb_965k (v := 0) (0) (by decide) (by decide) (by rw [hb_965n]; decide) (h0 b_965 hb_965) dX12_oneMeal_8 ?_
  refine t_icmp_ge C (tgt := 115) (by decide) dX12_oneMeal_9 (by decide) ?_
  refine g_aload_n C 1 dX12_oneMeal_115 rfl rfl ?_
  refine g_getR C K hLx hkx f_12_13 hb_965 dX12_oneMeal_116 ?_
  refine g_bipush C (v := 72) dX12_oneMeal_119 (by decide) ?_
  refine g_dup2 C dX12_oneMeal_121 rfl rfl ?_
  refine h_iald C K hb_965L hb_965k (v := nI n) (72) (by decide) (by decide) (by rw [hb_965n]; decide) (h72 b_965 hb_965) dX12_oneMeal_122 ?_
  refine g_iconst C (v := 1) dX12_oneMeal_123 (by decide) ?_
  refine g_iadd C (v := nI (n + 1)) dX12_oneMeal_124 (nI_add (n) 1) ?_
  refine h_iast C K hb_965L hb_965k (72) (by decide) (by decide) (by rw [hb_965n]; decide) dX12_oneMeal_125 (fun I_966 hI_966 => ?_)
  exact g_vret B K rfl (⟨rfl, (Fk.rf).u2 hI_966 hb_965k (by decide), fun b hb => by rw [hb_965] at hb; cases hb; exact (by rw [hI_966, u2_j (by decide)]; exact h0 b_965 hb_965), fun b hb => by rw [hb_965] at hb; cases hb; exact (by rw [hI_966]; exact u2_s)⟩) dX12_oneMeal_126
set_option maxRecDepth 100000 in
set_option maxHeartbeats 4000000 in
theorem m_passMeals0 {l : Launch} {D : va_G} {cy : Nat → ClassId} {L : List Nat} {κ ln : Nat → Nat} {R : Nat → Nat → Option Nat} {I : Nat → Nat → Int32} {J : Nat → Nat → Int64} {ow : Nat → Nat × Nat} (W9 : ∀ a ∈ L, Shp L κ ln R ow a) {x : Nat} (hLx : x ∈ L) (hkx : κ x = 12) (N : Nat) (hN : 1 ≤ N ∧ N ≤ 60) (h0 : ∀ b, R x 14 = some b → I b 0 = 0) (h72 : ∀ b, R x 14 = some b → I b 72 = 0) : CtI l yX12_passMeals cX12_passMeals 4 (some .int) { frames := 1, cells := 0, slots := 0, locals := 100 } D cy L κ ln R I J [.ref x, .int (nI N)] (fun r _ _ => r = nI N) := by
  refine CtI.of (by decide +kernel) (Nat.le_of_ble_eq_true rfl) ?_
  intro p e s m below meth c B K
  have C := B.1
  refine g_lo (is := [0, 1]) (lo2 := [(0, .ref x), (1, .int (nI N))]) rfl ?_
  refine g_iload_n C 1 dX12_passMeals_0 rfl rfl ?_
  refine g_sipush C (v := 200) dX12_passMeals_1 (by decide) ?_
  refine g_aload_n C 0 dX12_passMeals_4 rfl rfl ?_
  obtain ⟨b_967, hb_967, hb_967L, hb_967k, hb_967n, hb_967o⟩ := shp_a (W9 x hLx) hkx 14 14 389 rfl (by decide)
  refine g_getR C K hLx hkx f_12_13 hb_967 dX12_passMeals_5 ?_
  refine g_bipush C (v := 72) dX12_passMeals_8 (by decide) ?_
  refine h_iald C K hb_967L hb_967k (v := 0) (72) (by decide) (by decide) (by rw [hb_967n]; decide) (h72 b_967 hb_967) dX12_passMeals_10 ?_
  refine g_isub C (v := 200) dX12_passMeals_11 (by decide) ?_
  refine g_callSI C K (m_least0 N hN.2) s_12_265 rfl ⟨rfl, rfl⟩ ⟨Nat.le_of_ble_eq_true rfl, Nat.le_of_ble_eq_true rfl⟩ (Nat.le_of_ble_eq_true rfl) ⟨Nat.le_of_ble_eq_true rfl, Nat.le_of_ble_eq_true rfl⟩ dX12_passMeals_12 rfl (st := []) (fun r_971 I_968 J_969 h_970 => ?_)
  obtain ⟨rfl, rfl, er_971⟩ := h_970
  have h0r_971 := er_971
  subst er_971
  refine g_istore_n C dX12_passMeals_15 rfl (by decide) (lo2 := [(2, .int (nI N)), (0, .ref x), (1, .int (nI N))]) rfl ?_
  refine g_iconst C (v := 0) dX12_passMeals_16 (by decide) ?_
  refine g_istore_n C dX12_passMeals_17 rfl (by decide) (lo2 := [(3, .int 0), (2, .int (nI N)), (0, .ref x), (1, .int (nI N))]) rfl ?_
  have lp_979 : ∀ (n_975 i_974 : Nat) (I_972 : Nat → Nat → Int32) (J_973 : Nat → Nat → Int64), i_974 + n_975 = N → J = J_973 → Fk κ [14] I I_972 → I_972 b_967 72 = nI i_974 → I_972 b_967 0 = 0 → WG p l e { frames := 1, cells := 0, slots := 0, locals := 100 } s m ([.ref x, .int (nI N)] : List Value).toArray below meth c 4 0 0 (MQ below (Qi_ D cy L κ ln R (fun r _ _ => r = nI N)) ([.ref x, .int (nI N)] : List Value).toArray s 0 0 (Al_ L)) D cy (Al_ L) s.heap L κ ln R I_972 J_973 18 [(3, .int (nI i_974)), (2, .int (nI N)), (0, .ref x), (1, .int (nI N))] [] := by
    intro n_975
    induction n_975 with
    | zero =>
      intro i_974 I_972 J_973 hi_978 e9 F_976 x_980 y_981
      subst e9
      refine g_iload_n C 0 dX12_passMeals_18 rfl rfl ?_
      refine g_iload_n C 1 dX12_passMeals_19 rfl rfl ?_
      refine t_icmp_ge C (tgt := 33) (lt_ge (n := i_974) (k := N) (by omega) (by omega)) dX12_passMeals_20 (by decide) ?_
      refine g_iload_n C 1 dX12_passMeals_33 rfl rfl ?_
      exact g_zret (ty := .int) (r := nI N) B K rfl rfl (rfl) dX12_passMeals_34
    | succ n_975 ihn_975 =>
      intro i_974 I_972 J_973 hi_978 e9 F_976 x_980 y_981
      subst e9
      refine g_iload_n C 0 dX12_passMeals_18 rfl rfl ?_
      refine g_iload_n C 1 dX12_passMeals_19 rfl rfl ?_
      refine n_icmp_ge C (tgt := 33) (ln_ge (n := i_974) (k := N) (by omega) (by omega)) dX12_passMeals_20 (by decide) ?_
      refine g_aload_n C 2 dX12_passMeals_23 rfl rfl ?_
      refine g_callVV C K (m_oneMeal0 W9 hLx hkx (fun b hb => by rw [hb_967] at hb; cases hb; exact (y_981)) (i_974) (fun b hb => by rw [hb_967] at hb; cases hb; exact (x_980))) hLx hkx (by decide) rfl v_12_292 rfl ⟨rfl, rfl⟩ ⟨Nat.le_of_ble_eq_true rfl, Nat.le_of_ble_eq_true rfl⟩ (Nat.le_of_ble_eq_true rfl) ⟨Nat.le_of_ble_eq_true rfl, Nat.le_of_ble_eq_true rfl⟩ dX12_passMeals_24 rfl (st := []) (fun I_982 J_983 h_984 => ?_)
      obtain ⟨rfl, f_986, v_988, v_989⟩ := h_984
      refine g_iinc C dX12_passMeals_27 (k := 0) (v := nI (i_974 + 1)) rfl (nI_1 (i_974)) (by decide) (lo2 := [(3, .int (nI (i_974 + 1))), (2, .int (nI N)), (0, .ref x), (1, .int (nI N))]) rfl ?_
      refine g_goto C (tgt := 18) dX12_passMeals_30 (by decide) ?_
      refine g_lo (is := [0, 1, 2, 3]) (lo2 := [(3, .int (nI (i_974 + 1))), (2, .int (nI N)), (0, .ref x), (1, .int (nI N))]) rfl ?_
      exact ihn_975 (i_974 + 1) I_982 J (by omega) rfl ((F_976).tr f_986 (by decide)) (v_989 b_967 hb_967) (v_988 b_967 hb_967)
  exact lp_979 (N - 0) 0 I J (by omega) rfl Fk.rf (h72 b_967 hb_967) (h0 b_967 hb_967)
set_option maxRecDepth 100000 in
set_option maxHeartbeats 4000000 in
theorem m_orderFrom0 {l : Launch} {D : va_G} {cy : Nat → ClassId} {L : List Nat} {κ ln : Nat → Nat} {R : Nat → Nat → Option Nat} {I : Nat → Nat → Int32} {J : Nat → Nat → Int64} {ow : Nat → Nat × Nat} (W9 : ∀ a ∈ L, Shp L κ ln R ow a) {x : Nat} (hLx : x ∈ L) (hkx : κ x = 12) (Z14 : Zk L κ 14 I) (h30 : I x 30 = 1000000) : CtV l yX12_orderFrom cX12_orderFrom 5 none { frames := 0, cells := 0, slots := 0, locals := 0 } D cy L κ ln R I J [.ref x, .int 0, .int 0] (fun I2 J2 => J = J2 ∧ Fk κ [12, 14] I I2 ∧ I2 x 30 = 0) := by
  refine CtV.of (by decide +kernel) (Nat.le_of_ble_eq_true rfl) ?_
  intro p e s m below meth c B K
  have C := B.1
  refine g_lo (is := [0, 1, 2]) (lo2 := [(0, .ref x), (1, .int 0), (2, .int 0)]) rfl ?_
  refine g_iload_n C 2 dX12_orderFrom_0 rfl rfl ?_
  refine n_if_ne C (tgt := 88) (by decide) dX12_orderFrom_1 (by decide) ?_
  refine g_iconst C (v := 0) dX12_orderFrom_4 (by decide) ?_
  refine g_istore_n C dX12_orderFrom_5 rfl (by decide) (lo2 := [(3, .int 0), (0, .ref x), (1, .int 0), (2, .int 0)]) rfl ?_
  refine g_iconst C (v := 0) dX12_orderFrom_6 (by decide) ?_
  refine g_istore C dX12_orderFrom_7 (by decide) (lo2 := [(4, .int 0), (3, .int 0), (0, .ref x), (1, .int 0), (2, .int 0)]) rfl ?_
  refine g_iload C 0 dX12_orderFrom_9 rfl ?_
  refine g_aload_n C 2 dX12_orderFrom_11 rfl rfl ?_
  obtain ⟨b_990, hb_990, hb_990L, hb_990k, hb_990n, hb_990o⟩ := shp_a (W9 x hLx) hkx 14 14 389 rfl (by decide)
  refine g_getR C K hLx hkx f_12_13 hb_990 dX12_orderFrom_12 ?_
  refine g_iconst C (v := 0) dX12_orderFrom_15 (by decide) ?_
  refine h_iald C K hb_990L hb_990k (v := 0) (0) (by decide) (by decide) (by rw [hb_990n]; decide) (Z14 b_990 hb_990L hb_990k 0) dX12_orderFrom_16 ?_
  refine t_icmp_ge C (tgt := 44) (by decide) dX12_orderFrom_17 (by decide) ?_
  refine g_iload_n C 1 dX12_orderFrom_44 rfl rfl ?_
  refine g_aload_n C 2 dX12_orderFrom_45 rfl rfl ?_
  refine g_getI C K hLx hkx f_12_298 (v := 1000000) (h30) dX12_orderFrom_46 ?_
  refine t_icmp_lt C (tgt := 53) (by decide) dX12_orderFrom_49 (by decide) ?_
  refine g_aload_n C 2 dX12_orderFrom_53 rfl rfl ?_
  refine g_iload_n C 1 dX12_orderFrom_54 rfl rfl ?_
  refine h_putI C K hLx hkx f_12_298 p_12_30 dX12_orderFrom_55 (fun I_991 hI_991 => ?_)
  refine g_iconst C (v := 0) dX12_orderFrom_58 (by decide) ?_
  refine g_istore C dX12_orderFrom_59 (by decide) (lo2 := [(4, .int 0), (3, .int 0), (0, .ref x), (1, .int 0), (2, .int 0)]) rfl ?_
  refine g_iload C 0 dX12_orderFrom_61 rfl ?_
  refine g_iload_n C 3 dX12_orderFrom_63 rfl rfl ?_
  refine t_icmp_ge C (tgt := 87) (by decide) dX12_orderFrom_64 (by decide) ?_
  exact g_vret B K rfl (⟨rfl, (Fk.rf).u2 hI_991 hkx (by decide), by rw [hI_991]; exact u2_s⟩) dX12_orderFrom_87
set_option maxRecDepth 100000 in
set_option maxHeartbeats 4000000 in
theorem m_seatFrom0 {l : Launch} {D : va_G} {cy : Nat → ClassId} {L : List Nat} {κ ln : Nat → Nat} {R : Nat → Nat → Option Nat} {I : Nat → Nat → Int32} {J : Nat → Nat → Int64} {ow : Nat → Nat × Nat} (W9 : ∀ a ∈ L, Shp L κ ln R ow a) {x : Nat} (hLx : x ∈ L) (hkx : κ x = 12) (h38 : I x 38 = -1) : CtV l yX12_seatFrom cX12_seatFrom 5 none { frames := 0, cells := 0, slots := 0, locals := 0 } D cy L κ ln R I J [.ref x, .int 0, .int 0, .int 0] (fun I2 J2 => J = J2 ∧ Fk κ [12, 14] I I2 ∧ I2 x 38 = 0) := by
  refine CtV.of (by decide +kernel) (Nat.le_of_ble_eq_true rfl) ?_
  intro p e s m below meth c B K
  have C := B.1
  refine g_lo (is := [0, 1, 2, 3]) (lo2 := [(0, .ref x), (1, .int 0), (2, .int 0), (3, .int 0)]) rfl ?_
  refine g_iload_n C 2 dX12_seatFrom_0 rfl rfl ?_
  refine n_if_ne C (tgt := 48) (by decide) dX12_seatFrom_1 (by decide) ?_
  refine g_iload_n C 3 dX12_seatFrom_4 rfl rfl ?_
  refine g_aload_n C 0 dX12_seatFrom_5 rfl rfl ?_
  refine g_getI C K hLx hkx f_12_320 (v := (-1)) (h38) dX12_seatFrom_6 ?_
  refine t_icmp_gt C (tgt := 13) (by decide) dX12_seatFrom_9 (by decide) ?_
  refine g_aload_n C 0 dX12_seatFrom_13 rfl rfl ?_
  refine g_iload_n C 3 dX12_seatFrom_14 rfl rfl ?_
  refine h_putI C K hLx hkx f_12_320 p_12_38 dX12_seatFrom_15 (fun I_992 hI_992 => ?_)
  refine g_iconst C (v := 0) dX12_seatFrom_18 (by decide) ?_
  refine g_istore C dX12_seatFrom_19 (by decide) (lo2 := [(4, .int 0), (0, .ref x), (1, .int 0), (2, .int 0), (3, .int 0)]) rfl ?_
  refine g_iload C 0 dX12_seatFrom_21 rfl ?_
  refine g_iload_n C 2 dX12_seatFrom_23 rfl rfl ?_
  refine t_icmp_ge C (tgt := 47) (by decide) dX12_seatFrom_24 (by decide) ?_
  exact g_vret B K rfl (⟨rfl, (Fk.rf).u2 hI_992 hkx (by decide), by rw [hI_992]; exact u2_s⟩) dX12_seatFrom_47
set_option maxRecDepth 100000 in
set_option maxHeartbeats 4000000 in
theorem m_readSaid0 {l : Launch} {D : va_G} {cy : Nat → ClassId} {L : List Nat} {κ ln : Nat → Nat} {R : Nat → Nat → Option Nat} {I : Nat → Nat → Int32} {J : Nat → Nat → Int64} {x : Nat} (hLx : x ∈ L) (hkx : κ x = 12) (h6 : I x 6 = 0) (h7 : I x 7 = 0) : CtI l yX12_readSaid cX12_readSaid 4 (some .boolean) { frames := 1, cells := 0, slots := 0, locals := 100 } D cy L κ ln R I J [.ref x] (fun r I2 J2 => J = J2 ∧ Fk κ [12] I I2 ∧ I2 x 11 = 0 ∧ r = 0) := by
  refine CtI.of (by decide +kernel) (Nat.le_of_ble_eq_true rfl) ?_
  intro p e s m below meth c B K
  have C := B.1
  refine g_lo (is := [0]) (lo2 := [(0, .ref x)]) rfl ?_
  refine g_aload_n C 0 dX12_readSaid_0 rfl rfl ?_
  refine g_bipush C (v := 40) dX12_readSaid_1 (by decide) ?_
  refine g_callVI C K (m_isSign0 hLx hkx h7) hLx hkx (by decide) rfl v_12_159 rfl ⟨rfl, rfl⟩ ⟨Nat.le_of_ble_eq_true rfl, Nat.le_of_ble_eq_true rfl⟩ (Nat.le_of_ble_eq_true rfl) ⟨Nat.le_of_ble_eq_true rfl, Nat.le_of_ble_eq_true rfl⟩ dX12_readSaid_3 rfl (st := []) (fun r_996 I_993 J_994 h_995 => ?_)
  obtain ⟨rfl, rfl, er_996⟩ := h_995
  have h0r_996 := er_996
  subst er_996
  refine g_istore_n C dX12_readSaid_6 rfl (by decide) (lo2 := [(1, .int 0), (0, .ref x)]) rfl ?_
  refine g_bipush C (v := 18) dX12_readSaid_7 (by decide) ?_
  refine g_istore_n C dX12_readSaid_9 rfl (by decide) (lo2 := [(2, .int 18), (1, .int 0), (0, .ref x)]) rfl ?_
  refine g_iload_n C 0 dX12_readSaid_10 rfl rfl ?_
  refine g_bipush C (v := 27) dX12_readSaid_11 (by decide) ?_
  refine n_icmp_gt C (tgt := 30) (by decide) dX12_readSaid_13 (by decide) ?_
  refine g_aload_n C 2 dX12_readSaid_16 rfl rfl ?_
  refine g_iload_n C 0 dX12_readSaid_17 rfl rfl ?_
  refine g_callVI C K (m_isWord0 hLx hkx h7 18) hLx hkx (by decide) rfl v_12_191 rfl ⟨rfl, rfl⟩ ⟨Nat.le_of_ble_eq_true rfl, Nat.le_of_ble_eq_true rfl⟩ (Nat.le_of_ble_eq_true rfl) ⟨Nat.le_of_ble_eq_true rfl, Nat.le_of_ble_eq_true rfl⟩ dX12_readSaid_18 rfl (st := []) (fun r_1000 I_997 J_998 h_999 => ?_)
  obtain ⟨rfl, rfl, er_1000⟩ := h_999
  have h0r_1000 := er_1000
  subst er_1000
  refine n_if_ne C (tgt := 30) (by decide) dX12_readSaid_21 (by decide) ?_
  refine g_iinc C dX12_readSaid_24 (k := 0) (v := 19) rfl (by decide) (by decide) (lo2 := [(2, .int 19), (1, .int 0), (0, .ref x)]) rfl ?_
  refine g_goto C (tgt := 10) dX12_readSaid_27 (by decide) ?_
  refine g_iload_n C 0 dX12_readSaid_10 rfl rfl ?_
  refine g_bipush C (v := 27) dX12_readSaid_11 (by decide) ?_
  refine n_icmp_gt C (tgt := 30) (by decide) dX12_readSaid_13 (by decide) ?_
  refine g_aload_n C 2 dX12_readSaid_16 rfl rfl ?_
  refine g_iload_n C 0 dX12_readSaid_17 rfl rfl ?_
  refine g_callVI C K (m_isWord0 hLx hkx h7 19) hLx hkx (by decide) rfl v_12_191 rfl ⟨rfl, rfl⟩ ⟨Nat.le_of_ble_eq_true rfl, Nat.le_of_ble_eq_true rfl⟩ (Nat.le_of_ble_eq_true rfl) ⟨Nat.le_of_ble_eq_true rfl, Nat.le_of_ble_eq_true rfl⟩ dX12_readSaid_18 rfl (st := []) (fun r_1004 I_1001 J_1002 h_1003 => ?_)
  obtain ⟨rfl, rfl, er_1004⟩ := h_1003
  have h0r_1004 := er_1004
  subst er_1004
  refine n_if_ne C (tgt := 30) (by decide) dX12_readSaid_21 (by decide) ?_
  refine g_iinc C dX12_readSaid_24 (k := 0) (v := 20) rfl (by decide) (by decide) (lo2 := [(2, .int 20), (1, .int 0), (0, .ref x)]) rfl ?_
  refine g_goto C (tgt := 10) dX12_readSaid_27 (by decide) ?_
  refine g_iload_n C 0 dX12_readSaid_10 rfl rfl ?_
  refine g_bipush C (v := 27) dX12_readSaid_11 (by decide) ?_
  refine n_icmp_gt C (tgt := 30) (by decide) dX12_readSaid_13 (by decide) ?_
  refine g_aload_n C 2 dX12_readSaid_16 rfl rfl ?_
  refine g_iload_n C 0 dX12_readSaid_17 rfl rfl ?_
  refine g_callVI C K (m_isWord0 hLx hkx h7 20) hLx hkx (by decide) rfl v_12_191 rfl ⟨rfl, rfl⟩ ⟨Nat.le_of_ble_eq_true rfl, Nat.le_of_ble_eq_true rfl⟩ (Nat.le_of_ble_eq_true rfl) ⟨Nat.le_of_ble_eq_true rfl, Nat.le_of_ble_eq_true rfl⟩ dX12_readSaid_18 rfl (st := []) (fun r_1008 I_1005 J_1006 h_1007 => ?_)
  obtain ⟨rfl, rfl, er_1008⟩ := h_1007
  have h0r_1008 := er_1008
  subst er_1008
  refine n_if_ne C (tgt := 30) (by decide) dX12_readSaid_21 (by decide) ?_
  refine g_iinc C dX12_readSaid_24 (k := 0) (v := 21) rfl (by decide) (by decide) (lo2 := [(2, .int 21), (1, .int 0), (0, .ref x)]) rfl ?_
  refine g_goto C (tgt := 10) dX12_readSaid_27 (by decide) ?_
  refine g_iload_n C 0 dX12_readSaid_10 rfl rfl ?_
  refine g_bipush C (v := 27) dX12_readSaid_11 (by decide) ?_
  refine n_icmp_gt C (tgt := 30) (by decide) dX12_readSaid_13 (by decide) ?_
  refine g_aload_n C 2 dX12_readSaid_16 rfl rfl ?_
  refine g_iload_n C 0 dX12_readSaid_17 rfl rfl ?_
  refine g_callVI C K (m_isWord0 hLx hkx h7 21) hLx hkx (by decide) rfl v_12_191 rfl ⟨rfl, rfl⟩ ⟨Nat.le_of_ble_eq_true rfl, Nat.le_of_ble_eq_true rfl⟩ (Nat.le_of_ble_eq_true rfl) ⟨Nat.le_of_ble_eq_true rfl, Nat.le_of_ble_eq_true rfl⟩ dX12_readSaid_18 rfl (st := []) (fun r_1012 I_1009 J_1010 h_1011 => ?_)
  obtain ⟨rfl, rfl, er_1012⟩ := h_1011
  have h0r_1012 := er_1012
  subst er_1012
  refine n_if_ne C (tgt := 30) (by decide) dX12_readSaid_21 (by decide) ?_
  refine g_iinc C dX12_readSaid_24 (k := 0) (v := 22) rfl (by decide) (by decide) (lo2 := [(2, .int 22), (1, .int 0), (0, .ref x)]) rfl ?_
  refine g_goto C (tgt := 10) dX12_readSaid_27 (by decide) ?_
  refine g_iload_n C 0 dX12_readSaid_10 rfl rfl ?_
  refine g_bipush C (v := 27) dX12_readSaid_11 (by decide) ?_
  refine n_icmp_gt C (tgt := 30) (by decide) dX12_readSaid_13 (by decide) ?_
  refine g_aload_n C 2 dX12_readSaid_16 rfl rfl ?_
  refine g_iload_n C 0 dX12_readSaid_17 rfl rfl ?_
  refine g_callVI C K (m_isWord0 hLx hkx h7 22) hLx hkx (by decide) rfl v_12_191 rfl ⟨rfl, rfl⟩ ⟨Nat.le_of_ble_eq_true rfl, Nat.le_of_ble_eq_true rfl⟩ (Nat.le_of_ble_eq_true rfl) ⟨Nat.le_of_ble_eq_true rfl, Nat.le_of_ble_eq_true rfl⟩ dX12_readSaid_18 rfl (st := []) (fun r_1016 I_1013 J_1014 h_1015 => ?_)
  obtain ⟨rfl, rfl, er_1016⟩ := h_1015
  have h0r_1016 := er_1016
  subst er_1016
  refine n_if_ne C (tgt := 30) (by decide) dX12_readSaid_21 (by decide) ?_
  refine g_iinc C dX12_readSaid_24 (k := 0) (v := 23) rfl (by decide) (by decide) (lo2 := [(2, .int 23), (1, .int 0), (0, .ref x)]) rfl ?_
  refine g_goto C (tgt := 10) dX12_readSaid_27 (by decide) ?_
  refine g_iload_n C 0 dX12_readSaid_10 rfl rfl ?_
  refine g_bipush C (v := 27) dX12_readSaid_11 (by decide) ?_
  refine n_icmp_gt C (tgt := 30) (by decide) dX12_readSaid_13 (by decide) ?_
  refine g_aload_n C 2 dX12_readSaid_16 rfl rfl ?_
  refine g_iload_n C 0 dX12_readSaid_17 rfl rfl ?_
  refine g_callVI C K (m_isWord0 hLx hkx h7 23) hLx hkx (by decide) rfl v_12_191 rfl ⟨rfl, rfl⟩ ⟨Nat.le_of_ble_eq_true rfl, Nat.le_of_ble_eq_true rfl⟩ (Nat.le_of_ble_eq_true rfl) ⟨Nat.le_of_ble_eq_true rfl, Nat.le_of_ble_eq_true rfl⟩ dX12_readSaid_18 rfl (st := []) (fun r_1020 I_1017 J_1018 h_1019 => ?_)
  obtain ⟨rfl, rfl, er_1020⟩ := h_1019
  have h0r_1020 := er_1020
  subst er_1020
  refine n_if_ne C (tgt := 30) (by decide) dX12_readSaid_21 (by decide) ?_
  refine g_iinc C dX12_readSaid_24 (k := 0) (v := 24) rfl (by decide) (by decide) (lo2 := [(2, .int 24), (1, .int 0), (0, .ref x)]) rfl ?_
  refine g_goto C (tgt := 10) dX12_readSaid_27 (by decide) ?_
  refine g_iload_n C 0 dX12_readSaid_10 rfl rfl ?_
  refine g_bipush C (v := 27) dX12_readSaid_11 (by decide) ?_
  refine n_icmp_gt C (tgt := 30) (by decide) dX12_readSaid_13 (by decide) ?_
  refine g_aload_n C 2 dX12_readSaid_16 rfl rfl ?_
  refine g_iload_n C 0 dX12_readSaid_17 rfl rfl ?_
  refine g_callVI C K (m_isWord0 hLx hkx h7 24) hLx hkx (by decide) rfl v_12_191 rfl ⟨rfl, rfl⟩ ⟨Nat.le_of_ble_eq_true rfl, Nat.le_of_ble_eq_true rfl⟩ (Nat.le_of_ble_eq_true rfl) ⟨Nat.le_of_ble_eq_true rfl, Nat.le_of_ble_eq_true rfl⟩ dX12_readSaid_18 rfl (st := []) (fun r_1024 I_1021 J_1022 h_1023 => ?_)
  obtain ⟨rfl, rfl, er_1024⟩ := h_1023
  have h0r_1024 := er_1024
  subst er_1024
  refine n_if_ne C (tgt := 30) (by decide) dX12_readSaid_21 (by decide) ?_
  refine g_iinc C dX12_readSaid_24 (k := 0) (v := 25) rfl (by decide) (by decide) (lo2 := [(2, .int 25), (1, .int 0), (0, .ref x)]) rfl ?_
  refine g_goto C (tgt := 10) dX12_readSaid_27 (by decide) ?_
  refine g_iload_n C 0 dX12_readSaid_10 rfl rfl ?_
  refine g_bipush C (v := 27) dX12_readSaid_11 (by decide) ?_
  refine n_icmp_gt C (tgt := 30) (by decide) dX12_readSaid_13 (by decide) ?_
  refine g_aload_n C 2 dX12_readSaid_16 rfl rfl ?_
  refine g_iload_n C 0 dX12_readSaid_17 rfl rfl ?_
  refine g_callVI C K (m_isWord0 hLx hkx h7 25) hLx hkx (by decide) rfl v_12_191 rfl ⟨rfl, rfl⟩ ⟨Nat.le_of_ble_eq_true rfl, Nat.le_of_ble_eq_true rfl⟩ (Nat.le_of_ble_eq_true rfl) ⟨Nat.le_of_ble_eq_true rfl, Nat.le_of_ble_eq_true rfl⟩ dX12_readSaid_18 rfl (st := []) (fun r_1028 I_1025 J_1026 h_1027 => ?_)
  obtain ⟨rfl, rfl, er_1028⟩ := h_1027
  have h0r_1028 := er_1028
  subst er_1028
  refine n_if_ne C (tgt := 30) (by decide) dX12_readSaid_21 (by decide) ?_
  refine g_iinc C dX12_readSaid_24 (k := 0) (v := 26) rfl (by decide) (by decide) (lo2 := [(2, .int 26), (1, .int 0), (0, .ref x)]) rfl ?_
  refine g_goto C (tgt := 10) dX12_readSaid_27 (by decide) ?_
  refine g_iload_n C 0 dX12_readSaid_10 rfl rfl ?_
  refine g_bipush C (v := 27) dX12_readSaid_11 (by decide) ?_
  refine n_icmp_gt C (tgt := 30) (by decide) dX12_readSaid_13 (by decide) ?_
  refine g_aload_n C 2 dX12_readSaid_16 rfl rfl ?_
  refine g_iload_n C 0 dX12_readSaid_17 rfl rfl ?_
  refine g_callVI C K (m_isWord0 hLx hkx h7 26) hLx hkx (by decide) rfl v_12_191 rfl ⟨rfl, rfl⟩ ⟨Nat.le_of_ble_eq_true rfl, Nat.le_of_ble_eq_true rfl⟩ (Nat.le_of_ble_eq_true rfl) ⟨Nat.le_of_ble_eq_true rfl, Nat.le_of_ble_eq_true rfl⟩ dX12_readSaid_18 rfl (st := []) (fun r_1032 I_1029 J_1030 h_1031 => ?_)
  obtain ⟨rfl, rfl, er_1032⟩ := h_1031
  have h0r_1032 := er_1032
  subst er_1032
  refine n_if_ne C (tgt := 30) (by decide) dX12_readSaid_21 (by decide) ?_
  refine g_iinc C dX12_readSaid_24 (k := 0) (v := 27) rfl (by decide) (by decide) (lo2 := [(2, .int 27), (1, .int 0), (0, .ref x)]) rfl ?_
  refine g_goto C (tgt := 10) dX12_readSaid_27 (by decide) ?_
  refine g_iload_n C 0 dX12_readSaid_10 rfl rfl ?_
  refine g_bipush C (v := 27) dX12_readSaid_11 (by decide) ?_
  refine n_icmp_gt C (tgt := 30) (by decide) dX12_readSaid_13 (by decide) ?_
  refine g_aload_n C 2 dX12_readSaid_16 rfl rfl ?_
  refine g_iload_n C 0 dX12_readSaid_17 rfl rfl ?_
  refine g_callVI C K (m_isWord0 hLx hkx h7 27) hLx hkx (by decide) rfl v_12_191 rfl ⟨rfl, rfl⟩ ⟨Nat.le_of_ble_eq_true rfl, Nat.le_of_ble_eq_true rfl⟩ (Nat.le_of_ble_eq_true rfl) ⟨Nat.le_of_ble_eq_true rfl, Nat.le_of_ble_eq_true rfl⟩ dX12_readSaid_18 rfl (st := []) (fun r_1036 I_1033 J_1034 h_1035 => ?_)
  obtain ⟨rfl, rfl, er_1036⟩ := h_1035
  have h0r_1036 := er_1036
  subst er_1036
  refine n_if_ne C (tgt := 30) (by decide) dX12_readSaid_21 (by decide) ?_
  refine g_iinc C dX12_readSaid_24 (k := 0) (v := 28) rfl (by decide) (by decide) (lo2 := [(2, .int 28), (1, .int 0), (0, .ref x)]) rfl ?_
  refine g_goto C (tgt := 10) dX12_readSaid_27 (by decide) ?_
  refine g_iload_n C 0 dX12_readSaid_10 rfl rfl ?_
  refine g_bipush C (v := 27) dX12_readSaid_11 (by decide) ?_
  refine t_icmp_gt C (tgt := 30) (by decide) dX12_readSaid_13 (by decide) ?_
  refine g_iload_n C 1 dX12_readSaid_30 rfl rfl ?_
  refine n_if_ne C (tgt := 46) (by decide) dX12_readSaid_31 (by decide) ?_
  refine g_iload_n C 0 dX12_readSaid_34 rfl rfl ?_
  refine g_bipush C (v := 27) dX12_readSaid_35 (by decide) ?_
  refine n_icmp_le C (tgt := 46) (by decide) dX12_readSaid_37 (by decide) ?_
  refine g_aload_n C 2 dX12_readSaid_40 rfl rfl ?_
  refine g_iconst C (v := 1) dX12_readSaid_41 (by decide) ?_
  refine g_callVI C K (m_bad0 hLx hkx (h7) (h6)) hLx hkx (by decide) rfl v_12_146 rfl ⟨rfl, rfl⟩ ⟨Nat.le_of_ble_eq_true rfl, Nat.le_of_ble_eq_true rfl⟩ (Nat.le_of_ble_eq_true rfl) ⟨Nat.le_of_ble_eq_true rfl, Nat.le_of_ble_eq_true rfl⟩ dX12_readSaid_42 rfl (st := []) (fun r_1040 I_1037 J_1038 h_1039 => ?_)
  obtain ⟨rfl, f_1041, v_1043, v_1044, rfl⟩ := h_1039
  exact g_zret (ty := .boolean) (r := 0) B K rfl (by decide) (⟨rfl, (Fk.rf).tr f_1041 (by decide), v_1044, rfl⟩) dX12_readSaid_45
set_option maxRecDepth 100000 in
set_option maxHeartbeats 4000000 in
theorem m_readAnd0 {l : Launch} {D : va_G} {cy : Nat → ClassId} {L : List Nat} {κ ln : Nat → Nat} {R : Nat → Nat → Option Nat} {I : Nat → Nat → Int32} {J : Nat → Nat → Int64} {x : Nat} (hLx : x ∈ L) (hkx : κ x = 12) (h6 : I x 6 = 0) (h7 : I x 7 = 0) : CtI l yX12_readAnd cX12_readAnd 2 (some .boolean) { frames := 2, cells := 0, slots := 0, locals := 150 } D cy L κ ln R I J [.ref x] (fun r I2 J2 => J = J2 ∧ Fk κ [12] I I2 ∧ I2 x 11 = 0 ∧ r = 0) := by
  refine CtI.of (by decide +kernel) (Nat.le_of_ble_eq_true rfl) ?_
  intro p e s m below meth c B K
  have C := B.1
  refine g_lo (is := [0]) (lo2 := [(0, .ref x)]) rfl ?_
  refine g_aload_n C 0 dX12_readAnd_0 rfl rfl ?_
  refine g_callVI C K (m_readSaid0 hLx hkx (h6) (h7)) hLx hkx (by decide) rfl v_12_392 rfl ⟨rfl, rfl⟩ ⟨Nat.le_of_ble_eq_true rfl, Nat.le_of_ble_eq_true rfl⟩ (Nat.le_of_ble_eq_true rfl) ⟨Nat.le_of_ble_eq_true rfl, Nat.le_of_ble_eq_true rfl⟩ dX12_readAnd_1 rfl (st := []) (fun r_1048 I_1045 J_1046 h_1047 => ?_)
  obtain ⟨rfl, f_1049, v_1051, rfl⟩ := h_1047
  refine n_if_ne C (tgt := 9) (by decide) dX12_readAnd_4 (by decide) ?_
  refine g_iconst C (v := 0) dX12_readAnd_7 (by decide) ?_
  exact g_zret (ty := .boolean) (r := 0) B K rfl (by decide) (⟨rfl, (Fk.rf).tr f_1049 (by decide), v_1051, rfl⟩) dX12_readAnd_8
set_option maxRecDepth 100000 in
set_option maxHeartbeats 4000000 in
theorem m_readOr0 {l : Launch} {D : va_G} {cy : Nat → ClassId} {L : List Nat} {κ ln : Nat → Nat} {R : Nat → Nat → Option Nat} {I : Nat → Nat → Int32} {J : Nat → Nat → Int64} {x : Nat} (hLx : x ∈ L) (hkx : κ x = 12) (h6 : I x 6 = 0) (h7 : I x 7 = 0) : CtI l yX12_readOr cX12_readOr 2 (some .boolean) { frames := 3, cells := 0, slots := 0, locals := 200 } D cy L κ ln R I J [.ref x] (fun r I2 J2 => J = J2 ∧ Fk κ [12] I I2 ∧ I2 x 11 = 0 ∧ r = 0) := by
  refine CtI.of (by decide +kernel) (Nat.le_of_ble_eq_true rfl) ?_
  intro p e s m below meth c B K
  have C := B.1
  refine g_lo (is := [0]) (lo2 := [(0, .ref x)]) rfl ?_
  refine g_aload_n C 0 dX12_readOr_0 rfl rfl ?_
  refine g_callVI C K (m_readAnd0 hLx hkx (h6) (h7)) hLx hkx (by decide) rfl v_12_383 rfl ⟨rfl, rfl⟩ ⟨Nat.le_of_ble_eq_true rfl, Nat.le_of_ble_eq_true rfl⟩ (Nat.le_of_ble_eq_true rfl) ⟨Nat.le_of_ble_eq_true rfl, Nat.le_of_ble_eq_true rfl⟩ dX12_readOr_1 rfl (st := []) (fun r_1055 I_1052 J_1053 h_1054 => ?_)
  obtain ⟨rfl, f_1056, v_1058, rfl⟩ := h_1054
  refine n_if_ne C (tgt := 9) (by decide) dX12_readOr_4 (by decide) ?_
  refine g_iconst C (v := 0) dX12_readOr_7 (by decide) ?_
  exact g_zret (ty := .boolean) (r := 0) B K rfl (by decide) (⟨rfl, (Fk.rf).tr f_1056 (by decide), v_1058, rfl⟩) dX12_readOr_8
end
section
theorem zz_last : True := by
  have _h := @Jvm.Stand.thenCaughtThrough
  trivial
end
