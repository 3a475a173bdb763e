-- ===== PART A: goes FIRST, ahead of the names: the tables' words, and 'selects' of the private methods out of them =====
/-- a private method of a class that the tables say can be made, by its rows of tables_1 -/
def lw_okq (q : MethodName × Nat) : Prop := (q.1.cls ≠ "java/lang/invoke/MethodHandle" ∧ q.1.cls ≠ "java/lang/invoke/VarHandle") ∧ Cond.instantiable q.1.cls q.2 ∈ tables_1 ∧ Cond.privateMethod q.1 ∈ tables_1 ∧ Cond.instanceMethod q.1 ∈ tables_1
theorem lw_p0 : lw_okq (⟨"ArguedFerry", "isOne", "(I)Z"⟩, 17) := ⟨⟨by decide +kernel, by decide +kernel⟩, List.mem_of_getElem? (i := 24) (by decide +kernel), List.mem_of_getElem? (i := 325) (by decide +kernel), List.mem_of_getElem? (i := 326) (by decide +kernel)⟩
theorem lw_p1 : lw_okq (⟨"ArguedFerry", "areTwo", "(II)Z"⟩, 17) := ⟨⟨by decide +kernel, by decide +kernel⟩, List.mem_of_getElem? (i := 24) (by decide +kernel), List.mem_of_getElem? (i := 450) (by decide +kernel), List.mem_of_getElem? (i := 451) (by decide +kernel)⟩
theorem lw_p2 : lw_okq (⟨"ArguedFerry$World", "argueOn", "()V"⟩, 14) := ⟨⟨by decide +kernel, by decide +kernel⟩, List.mem_of_getElem? (i := 109) (by decide +kernel), List.mem_of_getElem? (i := 545) (by decide +kernel), List.mem_of_getElem? (i := 546) (by decide +kernel)⟩
theorem lw_p3 : lw_okq (⟨"ArguedFerry$World", "goAshore", "()V"⟩, 14) := ⟨⟨by decide +kernel, by decide +kernel⟩, List.mem_of_getElem? (i := 109) (by decide +kernel), List.mem_of_getElem? (i := 557) (by decide +kernel), List.mem_of_getElem? (i := 558) (by decide +kernel)⟩
theorem lw_p4 : lw_okq (⟨"ArguedFerry$World", "shiftViews", "(LArguedFerry$Passenger;LArguedFerry$Passenger;)V"⟩, 14) := ⟨⟨by decide +kernel, by decide +kernel⟩, List.mem_of_getElem? (i := 109) (by decide +kernel), List.mem_of_getElem? (i := 561) (by decide +kernel), List.mem_of_getElem? (i := 562) (by decide +kernel)⟩
theorem lw_p5 : lw_okq (⟨"ArguedFerry$World", "setOff", "()V"⟩, 14) := ⟨⟨by decide +kernel, by decide +kernel⟩, List.mem_of_getElem? (i := 109) (by decide +kernel), List.mem_of_getElem? (i := 567) (by decide +kernel), List.mem_of_getElem? (i := 568) (by decide +kernel)⟩
theorem lw_p6 : lw_okq (⟨"ArguedFerry$World", "nextAshore", "(I)I"⟩, 14) := ⟨⟨by decide +kernel, by decide +kernel⟩, List.mem_of_getElem? (i := 109) (by decide +kernel), List.mem_of_getElem? (i := 571) (by decide +kernel), List.mem_of_getElem? (i := 572) (by decide +kernel)⟩
theorem lw_p7 : lw_okq (⟨"ArguedFerry$World", "thoseOver", "()I"⟩, 14) := ⟨⟨by decide +kernel, by decide +kernel⟩, List.mem_of_getElem? (i := 109) (by decide +kernel), List.mem_of_getElem? (i := 592) (by decide +kernel), List.mem_of_getElem? (i := 593) (by decide +kernel)⟩
theorem lw_p8 : lw_okq (⟨"ArguedFerry", "minutesOver", "(III)I"⟩, 17) := ⟨⟨by decide +kernel, by decide +kernel⟩, List.mem_of_getElem? (i := 24) (by decide +kernel), List.mem_of_getElem? (i := 600) (by decide +kernel), List.mem_of_getElem? (i := 601) (by decide +kernel)⟩
theorem lw_p9 : lw_okq (⟨"ArguedFerry", "findPartners", "(I)V"⟩, 17) := ⟨⟨by decide +kernel, by decide +kernel⟩, List.mem_of_getElem? (i := 24) (by decide +kernel), List.mem_of_getElem? (i := 625) (by decide +kernel), List.mem_of_getElem? (i := 626) (by decide +kernel)⟩
theorem lw_p10 : lw_okq (⟨"ArguedFerry", "pairsOf", "(I)I"⟩, 17) := ⟨⟨by decide +kernel, by decide +kernel⟩, List.mem_of_getElem? (i := 24) (by decide +kernel), List.mem_of_getElem? (i := 630) (by decide +kernel), List.mem_of_getElem? (i := 631) (by decide +kernel)⟩
theorem lw_p11 : lw_okq (⟨"ArguedFerry", "sumDifferences", "(LArguedFerry$Row;)V"⟩, 17) := ⟨⟨by decide +kernel, by decide +kernel⟩, List.mem_of_getElem? (i := 24) (by decide +kernel), List.mem_of_getElem? (i := 671) (by decide +kernel), List.mem_of_getElem? (i := 672) (by decide +kernel)⟩
theorem lw_p12 : lw_okq (⟨"ArguedFerry$Tape", "goOn", "()V"⟩, 6) := ⟨⟨by decide +kernel, by decide +kernel⟩, List.mem_of_getElem? (i := 36) (by decide +kernel), List.mem_of_getElem? (i := 710) (by decide +kernel), List.mem_of_getElem? (i := 711) (by decide +kernel)⟩
theorem lw_p13 : lw_okq (⟨"ArguedFerry$Tape", "keyHere", "()I"⟩, 6) := ⟨⟨by decide +kernel, by decide +kernel⟩, List.mem_of_getElem? (i := 36) (by decide +kernel), List.mem_of_getElem? (i := 720) (by decide +kernel), List.mem_of_getElem? (i := 721) (by decide +kernel)⟩
theorem lw_p14 : lw_okq (⟨"ArguedFerry$Tape", "isWordHere", "(Ljava/lang/String;)Z"⟩, 6) := ⟨⟨by decide +kernel, by decide +kernel⟩, List.mem_of_getElem? (i := 36) (by decide +kernel), List.mem_of_getElem? (i := 727) (by decide +kernel), List.mem_of_getElem? (i := 728) (by decide +kernel)⟩
theorem lw_p15 : lw_okq (⟨"ArguedFerry$Tape", "takeOr", "(II)Z"⟩, 6) := ⟨⟨by decide +kernel, by decide +kernel⟩, List.mem_of_getElem? (i := 36) (by decide +kernel), List.mem_of_getElem? (i := 783) (by decide +kernel), List.mem_of_getElem? (i := 784) (by decide +kernel)⟩
def lw_privs_1 : List (MethodName × Nat) := [(⟨"ArguedFerry", "isOne", "(I)Z"⟩, 17), (⟨"ArguedFerry", "areTwo", "(II)Z"⟩, 17), (⟨"ArguedFerry$World", "argueOn", "()V"⟩, 14), (⟨"ArguedFerry$World", "goAshore", "()V"⟩, 14), (⟨"ArguedFerry$World", "shiftViews", "(LArguedFerry$Passenger;LArguedFerry$Passenger;)V"⟩, 14), (⟨"ArguedFerry$World", "setOff", "()V"⟩, 14), (⟨"ArguedFerry$World", "nextAshore", "(I)I"⟩, 14), (⟨"ArguedFerry$World", "thoseOver", "()I"⟩, 14), (⟨"ArguedFerry", "minutesOver", "(III)I"⟩, 17), (⟨"ArguedFerry", "findPartners", "(I)V"⟩, 17), (⟨"ArguedFerry", "pairsOf", "(I)I"⟩, 17), (⟨"ArguedFerry", "sumDifferences", "(LArguedFerry$Row;)V"⟩, 17), (⟨"ArguedFerry$Tape", "goOn", "()V"⟩, 6), (⟨"ArguedFerry$Tape", "keyHere", "()I"⟩, 6), (⟨"ArguedFerry$Tape", "isWordHere", "(Ljava/lang/String;)Z"⟩, 6), (⟨"ArguedFerry$Tape", "takeOr", "(II)Z"⟩, 6)]
theorem lw_r1 : ∀ q ∈ lw_privs_1, lw_okq q := List.forall_mem_cons.mpr ⟨lw_p0, List.forall_mem_cons.mpr ⟨lw_p1, List.forall_mem_cons.mpr ⟨lw_p2, List.forall_mem_cons.mpr ⟨lw_p3, List.forall_mem_cons.mpr ⟨lw_p4, List.forall_mem_cons.mpr ⟨lw_p5, List.forall_mem_cons.mpr ⟨lw_p6, List.forall_mem_cons.mpr ⟨lw_p7, List.forall_mem_cons.mpr ⟨lw_p8, List.forall_mem_cons.mpr ⟨lw_p9, List.forall_mem_cons.mpr ⟨lw_p10, List.forall_mem_cons.mpr ⟨lw_p11, List.forall_mem_cons.mpr ⟨lw_p12, List.forall_mem_cons.mpr ⟨lw_p13, List.forall_mem_cons.mpr ⟨lw_p14, List.forall_mem_cons.mpr ⟨lw_p15, fun _ h => absurd h List.not_mem_nil⟩⟩⟩⟩⟩⟩⟩⟩⟩⟩⟩⟩⟩⟩⟩⟩
theorem lw_p16 : lw_okq (⟨"ArguedFerry$Tape", "takeAnd", "(II)Z"⟩, 6) := ⟨⟨by decide +kernel, by decide +kernel⟩, List.mem_of_getElem? (i := 36) (by decide +kernel), List.mem_of_getElem? (i := 787) (by decide +kernel), List.mem_of_getElem? (i := 788) (by decide +kernel)⟩
theorem lw_p17 : lw_okq (⟨"ArguedFerry$Tape", "takeTest", "(II)Z"⟩, 6) := ⟨⟨by decide +kernel, by decide +kernel⟩, List.mem_of_getElem? (i := 36) (by decide +kernel), List.mem_of_getElem? (i := 791) (by decide +kernel), List.mem_of_getElem? (i := 792) (by decide +kernel)⟩
theorem lw_p18 : lw_okq (⟨"ArguedFerry$Tape", "takeSum", "(II)Z"⟩, 6) := ⟨⟨by decide +kernel, by decide +kernel⟩, List.mem_of_getElem? (i := 36) (by decide +kernel), List.mem_of_getElem? (i := 795) (by decide +kernel), List.mem_of_getElem? (i := 796) (by decide +kernel)⟩
theorem lw_p19 : lw_okq (⟨"ArguedFerry$Tape", "takeTerm", "(II)Z"⟩, 6) := ⟨⟨by decide +kernel, by decide +kernel⟩, List.mem_of_getElem? (i := 36) (by decide +kernel), List.mem_of_getElem? (i := 799) (by decide +kernel), List.mem_of_getElem? (i := 800) (by decide +kernel)⟩
theorem lw_p20 : lw_okq (⟨"ArguedFerry$Tape", "takePiece", "(II)Z"⟩, 6) := ⟨⟨by decide +kernel, by decide +kernel⟩, List.mem_of_getElem? (i := 36) (by decide +kernel), List.mem_of_getElem? (i := 803) (by decide +kernel), List.mem_of_getElem? (i := 804) (by decide +kernel)⟩
theorem lw_p21 : lw_okq (⟨"ArguedFerry$Tape", "takeNumber", "()Z"⟩, 6) := ⟨⟨by decide +kernel, by decide +kernel⟩, List.mem_of_getElem? (i := 36) (by decide +kernel), List.mem_of_getElem? (i := 807) (by decide +kernel), List.mem_of_getElem? (i := 808) (by decide +kernel)⟩
theorem lw_p22 : lw_okq (⟨"ArguedFerry$Text", "addCode", "(I)V"⟩, 6) := ⟨⟨by decide +kernel, by decide +kernel⟩, List.mem_of_getElem? (i := 199) (by decide +kernel), List.mem_of_getElem? (i := 815) (by decide +kernel), List.mem_of_getElem? (i := 816) (by decide +kernel)⟩
theorem lw_p23 : lw_okq (⟨"ArguedFerry$Tape", "takeName", "()Z"⟩, 6) := ⟨⟨by decide +kernel, by decide +kernel⟩, List.mem_of_getElem? (i := 36) (by decide +kernel), List.mem_of_getElem? (i := 819) (by decide +kernel), List.mem_of_getElem? (i := 820) (by decide +kernel)⟩
theorem lw_p24 : lw_okq (⟨"ArguedFerry$Tape", "takeNot", "(II)Z"⟩, 6) := ⟨⟨by decide +kernel, by decide +kernel⟩, List.mem_of_getElem? (i := 36) (by decide +kernel), List.mem_of_getElem? (i := 885) (by decide +kernel), List.mem_of_getElem? (i := 886) (by decide +kernel)⟩
theorem lw_p25 : lw_okq (⟨"ArguedFerry$Tape", "takeBracket", "(II)Z"⟩, 6) := ⟨⟨by decide +kernel, by decide +kernel⟩, List.mem_of_getElem? (i := 36) (by decide +kernel), List.mem_of_getElem? (i := 893) (by decide +kernel), List.mem_of_getElem? (i := 894) (by decide +kernel)⟩
theorem lw_p26 : lw_okq (⟨"ArguedFerry", "waitsAt", "(III)Z"⟩, 17) := ⟨⟨by decide +kernel, by decide +kernel⟩, List.mem_of_getElem? (i := 24) (by decide +kernel), List.mem_of_getElem? (i := 978) (by decide +kernel), List.mem_of_getElem? (i := 979) (by decide +kernel)⟩
theorem lw_p27 : lw_okq (⟨"ArguedFerryModel", "comes", "(II)I"⟩, 35) := ⟨⟨by decide +kernel, by decide +kernel⟩, List.mem_of_getElem? (i := 994) (by decide +kernel), List.mem_of_getElem? (i := 1117) (by decide +kernel), List.mem_of_getElem? (i := 1118) (by decide +kernel)⟩
theorem lw_p28 : lw_okq (⟨"ArguedFerryModel", "put", "(III)V"⟩, 35) := ⟨⟨by decide +kernel, by decide +kernel⟩, List.mem_of_getElem? (i := 994) (by decide +kernel), List.mem_of_getElem? (i := 1121) (by decide +kernel), List.mem_of_getElem? (i := 1122) (by decide +kernel)⟩
theorem lw_p29 : lw_okq (⟨"ArguedFerryModel", "isOne", "(I)Z"⟩, 35) := ⟨⟨by decide +kernel, by decide +kernel⟩, List.mem_of_getElem? (i := 994) (by decide +kernel), List.mem_of_getElem? (i := 1129) (by decide +kernel), List.mem_of_getElem? (i := 1130) (by decide +kernel)⟩
theorem lw_p30 : lw_okq (⟨"ArguedFerryModel", "of", "(II)I"⟩, 35) := ⟨⟨by decide +kernel, by decide +kernel⟩, List.mem_of_getElem? (i := 994) (by decide +kernel), List.mem_of_getElem? (i := 1133) (by decide +kernel), List.mem_of_getElem? (i := 1134) (by decide +kernel)⟩
theorem lw_p31 : lw_okq (⟨"ArguedFerryModel", "worthOf", "(I)I"⟩, 35) := ⟨⟨by decide +kernel, by decide +kernel⟩, List.mem_of_getElem? (i := 994) (by decide +kernel), List.mem_of_getElem? (i := 1137) (by decide +kernel), List.mem_of_getElem? (i := 1138) (by decide +kernel)⟩
def lw_privs_2 : List (MethodName × Nat) := [(⟨"ArguedFerry$Tape", "takeAnd", "(II)Z"⟩, 6), (⟨"ArguedFerry$Tape", "takeTest", "(II)Z"⟩, 6), (⟨"ArguedFerry$Tape", "takeSum", "(II)Z"⟩, 6), (⟨"ArguedFerry$Tape", "takeTerm", "(II)Z"⟩, 6), (⟨"ArguedFerry$Tape", "takePiece", "(II)Z"⟩, 6), (⟨"ArguedFerry$Tape", "takeNumber", "()Z"⟩, 6), (⟨"ArguedFerry$Text", "addCode", "(I)V"⟩, 6), (⟨"ArguedFerry$Tape", "takeName", "()Z"⟩, 6), (⟨"ArguedFerry$Tape", "takeNot", "(II)Z"⟩, 6), (⟨"ArguedFerry$Tape", "takeBracket", "(II)Z"⟩, 6), (⟨"ArguedFerry", "waitsAt", "(III)Z"⟩, 17), (⟨"ArguedFerryModel", "comes", "(II)I"⟩, 35), (⟨"ArguedFerryModel", "put", "(III)V"⟩, 35), (⟨"ArguedFerryModel", "isOne", "(I)Z"⟩, 35), (⟨"ArguedFerryModel", "of", "(II)I"⟩, 35), (⟨"ArguedFerryModel", "worthOf", "(I)I"⟩, 35)]
theorem lw_r2 : ∀ q ∈ lw_privs_2, lw_okq q := List.forall_mem_cons.mpr ⟨lw_p16, List.forall_mem_cons.mpr ⟨lw_p17, List.forall_mem_cons.mpr ⟨lw_p18, List.forall_mem_cons.mpr ⟨lw_p19, List.forall_mem_cons.mpr ⟨lw_p20, List.forall_mem_cons.mpr ⟨lw_p21, List.forall_mem_cons.mpr ⟨lw_p22, List.forall_mem_cons.mpr ⟨lw_p23, List.forall_mem_cons.mpr ⟨lw_p24, List.forall_mem_cons.mpr ⟨lw_p25, List.forall_mem_cons.mpr ⟨lw_p26, List.forall_mem_cons.mpr ⟨lw_p27, List.forall_mem_cons.mpr ⟨lw_p28, List.forall_mem_cons.mpr ⟨lw_p29, List.forall_mem_cons.mpr ⟨lw_p30, List.forall_mem_cons.mpr ⟨lw_p31, fun _ h => absurd h List.not_mem_nil⟩⟩⟩⟩⟩⟩⟩⟩⟩⟩⟩⟩⟩⟩⟩⟩
theorem lw_p32 : lw_okq (⟨"ArguedFerryModel", "swaps", "(II)I"⟩, 35) := ⟨⟨by decide +kernel, by decide +kernel⟩, List.mem_of_getElem? (i := 994) (by decide +kernel), List.mem_of_getElem? (i := 1152) (by decide +kernel), List.mem_of_getElem? (i := 1153) (by decide +kernel)⟩
theorem lw_p33 : lw_okq (⟨"ArguedFerryModel", "draw", "()I"⟩, 35) := ⟨⟨by decide +kernel, by decide +kernel⟩, List.mem_of_getElem? (i := 994) (by decide +kernel), List.mem_of_getElem? (i := 1181) (by decide +kernel), List.mem_of_getElem? (i := 1182) (by decide +kernel)⟩
theorem lw_p34 : lw_okq (⟨"ArguedFerryModel", "areTwo", "(II)Z"⟩, 35) := ⟨⟨by decide +kernel, by decide +kernel⟩, List.mem_of_getElem? (i := 994) (by decide +kernel), List.mem_of_getElem? (i := 1199) (by decide +kernel), List.mem_of_getElem? (i := 1200) (by decide +kernel)⟩
theorem lw_p35 : lw_okq (⟨"ArguedFerryModel", "apart", "(III)I"⟩, 35) := ⟨⟨by decide +kernel, by decide +kernel⟩, List.mem_of_getElem? (i := 994) (by decide +kernel), List.mem_of_getElem? (i := 1203) (by decide +kernel), List.mem_of_getElem? (i := 1204) (by decide +kernel)⟩
theorem lw_p36 : lw_okq (⟨"ArguedFerryModel", "speaks", "(III)I"⟩, 35) := ⟨⟨by decide +kernel, by decide +kernel⟩, List.mem_of_getElem? (i := 994) (by decide +kernel), List.mem_of_getElem? (i := 1207) (by decide +kernel), List.mem_of_getElem? (i := 1208) (by decide +kernel)⟩
theorem lw_p37 : lw_okq (⟨"ArguedFerryModel", "counts", "(I)I"⟩, 35) := ⟨⟨by decide +kernel, by decide +kernel⟩, List.mem_of_getElem? (i := 994) (by decide +kernel), List.mem_of_getElem? (i := 1211) (by decide +kernel), List.mem_of_getElem? (i := 1212) (by decide +kernel)⟩
theorem lw_p38 : lw_okq (⟨"ArguedFerryModel", "worksOut", "(I)I"⟩, 35) := ⟨⟨by decide +kernel, by decide +kernel⟩, List.mem_of_getElem? (i := 994) (by decide +kernel), List.mem_of_getElem? (i := 1215) (by decide +kernel), List.mem_of_getElem? (i := 1216) (by decide +kernel)⟩
theorem lw_p39 : lw_okq (⟨"ArguedFerryModel", "heats", "(III)I"⟩, 35) := ⟨⟨by decide +kernel, by decide +kernel⟩, List.mem_of_getElem? (i := 994) (by decide +kernel), List.mem_of_getElem? (i := 1225) (by decide +kernel), List.mem_of_getElem? (i := 1226) (by decide +kernel)⟩
theorem lw_p40 : lw_okq (⟨"ArguedFerryModel", "shifts", "(III)I"⟩, 35) := ⟨⟨by decide +kernel, by decide +kernel⟩, List.mem_of_getElem? (i := 994) (by decide +kernel), List.mem_of_getElem? (i := 1229) (by decide +kernel), List.mem_of_getElem? (i := 1230) (by decide +kernel)⟩
theorem lw_p41 : lw_okq (⟨"ArguedFerryModel", "goesOn", "(I)V"⟩, 35) := ⟨⟨by decide +kernel, by decide +kernel⟩, List.mem_of_getElem? (i := 994) (by decide +kernel), List.mem_of_getElem? (i := 1237) (by decide +kernel), List.mem_of_getElem? (i := 1238) (by decide +kernel)⟩
theorem lw_p42 : lw_okq (⟨"ArguedFerryModel", "minute", "()V"⟩, 35) := ⟨⟨by decide +kernel, by decide +kernel⟩, List.mem_of_getElem? (i := 994) (by decide +kernel), List.mem_of_getElem? (i := 1241) (by decide +kernel), List.mem_of_getElem? (i := 1242) (by decide +kernel)⟩
theorem lw_p43 : lw_okq (⟨"ArguedFerryModel", "waits", "()V"⟩, 35) := ⟨⟨by decide +kernel, by decide +kernel⟩, List.mem_of_getElem? (i := 994) (by decide +kernel), List.mem_of_getElem? (i := 1245) (by decide +kernel), List.mem_of_getElem? (i := 1246) (by decide +kernel)⟩
theorem lw_p44 : lw_okq (⟨"ArguedFerryModel", "nextAt", "(II)I"⟩, 35) := ⟨⟨by decide +kernel, by decide +kernel⟩, List.mem_of_getElem? (i := 994) (by decide +kernel), List.mem_of_getElem? (i := 1249) (by decide +kernel), List.mem_of_getElem? (i := 1250) (by decide +kernel)⟩
theorem lw_p45 : lw_okq (⟨"ArguedFerryModel", "goAboard", "(II)V"⟩, 35) := ⟨⟨by decide +kernel, by decide +kernel⟩, List.mem_of_getElem? (i := 994) (by decide +kernel), List.mem_of_getElem? (i := 1253) (by decide +kernel), List.mem_of_getElem? (i := 1254) (by decide +kernel)⟩
theorem lw_p46 : lw_okq (⟨"ArguedFerryModel", "quarrel", "(II)V"⟩, 35) := ⟨⟨by decide +kernel, by decide +kernel⟩, List.mem_of_getElem? (i := 994) (by decide +kernel), List.mem_of_getElem? (i := 1257) (by decide +kernel), List.mem_of_getElem? (i := 1258) (by decide +kernel)⟩
theorem lw_p47 : lw_okq (⟨"ArguedFerryModel", "comesTo", "(I)V"⟩, 35) := ⟨⟨by decide +kernel, by decide +kernel⟩, List.mem_of_getElem? (i := 994) (by decide +kernel), List.mem_of_getElem? (i := 1261) (by decide +kernel), List.mem_of_getElem? (i := 1262) (by decide +kernel)⟩
def lw_privs_3 : List (MethodName × Nat) := [(⟨"ArguedFerryModel", "swaps", "(II)I"⟩, 35), (⟨"ArguedFerryModel", "draw", "()I"⟩, 35), (⟨"ArguedFerryModel", "areTwo", "(II)Z"⟩, 35), (⟨"ArguedFerryModel", "apart", "(III)I"⟩, 35), (⟨"ArguedFerryModel", "speaks", "(III)I"⟩, 35), (⟨"ArguedFerryModel", "counts", "(I)I"⟩, 35), (⟨"ArguedFerryModel", "worksOut", "(I)I"⟩, 35), (⟨"ArguedFerryModel", "heats", "(III)I"⟩, 35), (⟨"ArguedFerryModel", "shifts", "(III)I"⟩, 35), (⟨"ArguedFerryModel", "goesOn", "(I)V"⟩, 35), (⟨"ArguedFerryModel", "minute", "()V"⟩, 35), (⟨"ArguedFerryModel", "waits", "()V"⟩, 35), (⟨"ArguedFerryModel", "nextAt", "(II)I"⟩, 35), (⟨"ArguedFerryModel", "goAboard", "(II)V"⟩, 35), (⟨"ArguedFerryModel", "quarrel", "(II)V"⟩, 35), (⟨"ArguedFerryModel", "comesTo", "(I)V"⟩, 35)]
theorem lw_r3 : ∀ q ∈ lw_privs_3, lw_okq q := List.forall_mem_cons.mpr ⟨lw_p32, List.forall_mem_cons.mpr ⟨lw_p33, List.forall_mem_cons.mpr ⟨lw_p34, List.forall_mem_cons.mpr ⟨lw_p35, List.forall_mem_cons.mpr ⟨lw_p36, List.forall_mem_cons.mpr ⟨lw_p37, List.forall_mem_cons.mpr ⟨lw_p38, List.forall_mem_cons.mpr ⟨lw_p39, List.forall_mem_cons.mpr ⟨lw_p40, List.forall_mem_cons.mpr ⟨lw_p41, List.forall_mem_cons.mpr ⟨lw_p42, List.forall_mem_cons.mpr ⟨lw_p43, List.forall_mem_cons.mpr ⟨lw_p44, List.forall_mem_cons.mpr ⟨lw_p45, List.forall_mem_cons.mpr ⟨lw_p46, List.forall_mem_cons.mpr ⟨lw_p47, fun _ h => absurd h List.not_mem_nil⟩⟩⟩⟩⟩⟩⟩⟩⟩⟩⟩⟩⟩⟩⟩⟩
theorem lw_p48 : lw_okq (⟨"ArguedFerryModel", "across", "()I"⟩, 35) := ⟨⟨by decide +kernel, by decide +kernel⟩, List.mem_of_getElem? (i := 994) (by decide +kernel), List.mem_of_getElem? (i := 1269) (by decide +kernel), List.mem_of_getElem? (i := 1270) (by decide +kernel)⟩
theorem lw_p49 : lw_okq (⟨"ArguedFerryModel", "tempers", "()I"⟩, 35) := ⟨⟨by decide +kernel, by decide +kernel⟩, List.mem_of_getElem? (i := 994) (by decide +kernel), List.mem_of_getElem? (i := 1273) (by decide +kernel), List.mem_of_getElem? (i := 1274) (by decide +kernel)⟩
theorem lw_p50 : lw_okq (⟨"ArguedFerryModel", "overIn", "(III)I"⟩, 35) := ⟨⟨by decide +kernel, by decide +kernel⟩, List.mem_of_getElem? (i := 994) (by decide +kernel), List.mem_of_getElem? (i := 1281) (by decide +kernel), List.mem_of_getElem? (i := 1282) (by decide +kernel)⟩
theorem lw_p51 : lw_okq (⟨"ArguedFerryModel", "thinks", "()V"⟩, 35) := ⟨⟨by decide +kernel, by decide +kernel⟩, List.mem_of_getElem? (i := 994) (by decide +kernel), List.mem_of_getElem? (i := 1285) (by decide +kernel), List.mem_of_getElem? (i := 1286) (by decide +kernel)⟩
theorem lw_p52 : lw_okq (⟨"ArguedFerryModel", "putsBack", "()V"⟩, 35) := ⟨⟨by decide +kernel, by decide +kernel⟩, List.mem_of_getElem? (i := 994) (by decide +kernel), List.mem_of_getElem? (i := 1292) (by decide +kernel), List.mem_of_getElem? (i := 1293) (by decide +kernel)⟩
theorem lw_p53 : lw_okq (⟨"ArguedFerryModel", "soonest", "(III)I"⟩, 35) := ⟨⟨by decide +kernel, by decide +kernel⟩, List.mem_of_getElem? (i := 994) (by decide +kernel), List.mem_of_getElem? (i := 1300) (by decide +kernel), List.mem_of_getElem? (i := 1301) (by decide +kernel)⟩
theorem lw_p54 : lw_okq (⟨"ArguedFerryModel", "pairsOf", "(I)I"⟩, 35) := ⟨⟨by decide +kernel, by decide +kernel⟩, List.mem_of_getElem? (i := 994) (by decide +kernel), List.mem_of_getElem? (i := 1308) (by decide +kernel), List.mem_of_getElem? (i := 1309) (by decide +kernel)⟩
theorem lw_p55 : lw_okq (⟨"ArguedFerryModel", "crossedBy", "(I)I"⟩, 35) := ⟨⟨by decide +kernel, by decide +kernel⟩, List.mem_of_getElem? (i := 994) (by decide +kernel), List.mem_of_getElem? (i := 1325) (by decide +kernel), List.mem_of_getElem? (i := 1326) (by decide +kernel)⟩
theorem lw_p56 : lw_okq (⟨"ArguedFerryModel", "go", "()V"⟩, 35) := ⟨⟨by decide +kernel, by decide +kernel⟩, List.mem_of_getElem? (i := 994) (by decide +kernel), List.mem_of_getElem? (i := 1361) (by decide +kernel), List.mem_of_getElem? (i := 1362) (by decide +kernel)⟩
theorem lw_p57 : lw_okq (⟨"ArguedFerryModel", "isLetter", "(I)Z"⟩, 35) := ⟨⟨by decide +kernel, by decide +kernel⟩, List.mem_of_getElem? (i := 994) (by decide +kernel), List.mem_of_getElem? (i := 1365) (by decide +kernel), List.mem_of_getElem? (i := 1366) (by decide +kernel)⟩
theorem lw_p58 : lw_okq (⟨"ArguedFerryModel", "isFigure", "(I)Z"⟩, 35) := ⟨⟨by decide +kernel, by decide +kernel⟩, List.mem_of_getElem? (i := 994) (by decide +kernel), List.mem_of_getElem? (i := 1369) (by decide +kernel), List.mem_of_getElem? (i := 1370) (by decide +kernel)⟩
theorem lw_p59 : lw_okq (⟨"ArguedFerryModel", "takesKey", "()Z"⟩, 35) := ⟨⟨by decide +kernel, by decide +kernel⟩, List.mem_of_getElem? (i := 994) (by decide +kernel), List.mem_of_getElem? (i := 1373) (by decide +kernel), List.mem_of_getElem? (i := 1374) (by decide +kernel)⟩
theorem lw_p60 : lw_okq (⟨"ArguedFerryModel", "takesE", "()Z"⟩, 35) := ⟨⟨by decide +kernel, by decide +kernel⟩, List.mem_of_getElem? (i := 994) (by decide +kernel), List.mem_of_getElem? (i := 1377) (by decide +kernel), List.mem_of_getElem? (i := 1378) (by decide +kernel)⟩
theorem lw_p61 : lw_okq (⟨"ArguedFerryModel", "takesPart", "()Z"⟩, 35) := ⟨⟨by decide +kernel, by decide +kernel⟩, List.mem_of_getElem? (i := 994) (by decide +kernel), List.mem_of_getElem? (i := 1381) (by decide +kernel), List.mem_of_getElem? (i := 1382) (by decide +kernel)⟩
theorem lw_p62 : lw_okq (⟨"ArguedFerryModel", "nameOf", "(I)I"⟩, 35) := ⟨⟨by decide +kernel, by decide +kernel⟩, List.mem_of_getElem? (i := 994) (by decide +kernel), List.mem_of_getElem? (i := 1385) (by decide +kernel), List.mem_of_getElem? (i := 1386) (by decide +kernel)⟩
theorem lw_p63 : lw_okq (⟨"ArguedFerryModel", "settle", "(I)V"⟩, 35) := ⟨⟨by decide +kernel, by decide +kernel⟩, List.mem_of_getElem? (i := 994) (by decide +kernel), List.mem_of_getElem? (i := 1389) (by decide +kernel), List.mem_of_getElem? (i := 1390) (by decide +kernel)⟩
def lw_privs_4 : List (MethodName × Nat) := [(⟨"ArguedFerryModel", "across", "()I"⟩, 35), (⟨"ArguedFerryModel", "tempers", "()I"⟩, 35), (⟨"ArguedFerryModel", "overIn", "(III)I"⟩, 35), (⟨"ArguedFerryModel", "thinks", "()V"⟩, 35), (⟨"ArguedFerryModel", "putsBack", "()V"⟩, 35), (⟨"ArguedFerryModel", "soonest", "(III)I"⟩, 35), (⟨"ArguedFerryModel", "pairsOf", "(I)I"⟩, 35), (⟨"ArguedFerryModel", "crossedBy", "(I)I"⟩, 35), (⟨"ArguedFerryModel", "go", "()V"⟩, 35), (⟨"ArguedFerryModel", "isLetter", "(I)Z"⟩, 35), (⟨"ArguedFerryModel", "isFigure", "(I)Z"⟩, 35), (⟨"ArguedFerryModel", "takesKey", "()Z"⟩, 35), (⟨"ArguedFerryModel", "takesE", "()Z"⟩, 35), (⟨"ArguedFerryModel", "takesPart", "()Z"⟩, 35), (⟨"ArguedFerryModel", "nameOf", "(I)I"⟩, 35), (⟨"ArguedFerryModel", "settle", "(I)V"⟩, 35)]
theorem lw_r4 : ∀ q ∈ lw_privs_4, lw_okq q := List.forall_mem_cons.mpr ⟨lw_p48, List.forall_mem_cons.mpr ⟨lw_p49, List.forall_mem_cons.mpr ⟨lw_p50, List.forall_mem_cons.mpr ⟨lw_p51, List.forall_mem_cons.mpr ⟨lw_p52, List.forall_mem_cons.mpr ⟨lw_p53, List.forall_mem_cons.mpr ⟨lw_p54, List.forall_mem_cons.mpr ⟨lw_p55, List.forall_mem_cons.mpr ⟨lw_p56, List.forall_mem_cons.mpr ⟨lw_p57, List.forall_mem_cons.mpr ⟨lw_p58, List.forall_mem_cons.mpr ⟨lw_p59, List.forall_mem_cons.mpr ⟨lw_p60, List.forall_mem_cons.mpr ⟨lw_p61, List.forall_mem_cons.mpr ⟨lw_p62, List.forall_mem_cons.mpr ⟨lw_p63, fun _ h => absurd h List.not_mem_nil⟩⟩⟩⟩⟩⟩⟩⟩⟩⟩⟩⟩⟩⟩⟩⟩
theorem lw_p64 : lw_okq (⟨"ArguedFerryModel", "notsOpen", "()I"⟩, 35) := ⟨⟨by decide +kernel, by decide +kernel⟩, List.mem_of_getElem? (i := 994) (by decide +kernel), List.mem_of_getElem? (i := 1396) (by decide +kernel), List.mem_of_getElem? (i := 1397) (by decide +kernel)⟩
theorem lw_p65 : lw_okq (⟨"ArguedFerryModel", "signHere", "()I"⟩, 35) := ⟨⟨by decide +kernel, by decide +kernel⟩, List.mem_of_getElem? (i := 994) (by decide +kernel), List.mem_of_getElem? (i := 1400) (by decide +kernel), List.mem_of_getElem? (i := 1401) (by decide +kernel)⟩
def lw_privs_5 : List (MethodName × Nat) := [(⟨"ArguedFerryModel", "notsOpen", "()I"⟩, 35), (⟨"ArguedFerryModel", "signHere", "()I"⟩, 35)]
theorem lw_r5 : ∀ q ∈ lw_privs_5, lw_okq q := List.forall_mem_cons.mpr ⟨lw_p64, List.forall_mem_cons.mpr ⟨lw_p65, fun _ h => absurd h List.not_mem_nil⟩⟩
def lw_privs : List (MethodName × Nat) := lw_privs_1 ++ (lw_privs_2 ++ (lw_privs_3 ++ (lw_privs_4 ++ (lw_privs_5))))
def lw_tbl : List Cond := k2_sels lw_privs ++ tables_1
theorem lw_privs_ok : ∀ q ∈ lw_privs, lw_okq q := by
  show ∀ q ∈ lw_privs_1 ++ (lw_privs_2 ++ (lw_privs_3 ++ (lw_privs_4 ++ (lw_privs_5)))), lw_okq q
  exact List.forall_mem_append.mpr ⟨lw_r1, List.forall_mem_append.mpr ⟨lw_r2, List.forall_mem_append.mpr ⟨lw_r3, List.forall_mem_append.mpr ⟨lw_r4, lw_r5⟩⟩⟩⟩

def RX0 : String := "ArguedFerry$Goat"
def TX0 : u_T := fun k => match k with
  | _ => ("", "", "", false)
def tyX0 : Nat → FieldType := fun k => match k with
  | _ => .int
abbrev wsX00 : List Cond := u_ws RX0 TX0 0
theorem nmX0 : ∀ a, a < 0 → ∀ b, b < 0 → a ≠ b → (TX0 a).2.1 ≠ (TX0 b).2.1 := by decide +kernel
theorem tyX0_ok : ∀ k, k < 0 → parseFieldDescriptor (TX0 k).2.2.1 = some (tyX0 k) := by decide +kernel
abbrev cX0_init : ByteArray := prog_2_method_1_code
def yX0_init : MethodName := ⟨RX0, "<init>", "()V"⟩
abbrev cX0_kind : ByteArray := prog_2_method_2_code
def yX0_kind : MethodName := ⟨RX0, "kind", "()I"⟩
abbrev cX0_isOf : ByteArray := prog_2_method_3_code
def yX0_isOf : MethodName := ⟨RX0, "isOf", "(I)Z"⟩
abbrev cX0_heats : ByteArray := prog_2_method_4_code
def yX0_heats : MethodName := ⟨RX0, "heats", "(I)I"⟩
abbrev cX0_shifts : ByteArray := prog_2_method_5_code
def yX0_shifts : MethodName := ⟨RX0, "shifts", "(II)I"⟩
abbrev cX0_worth : ByteArray := prog_2_method_6_code
def yX0_worth : MethodName := ⟨RX0, "worth", "(I)I"⟩
def RX1 : String := "ArguedFerry$Hired"
def TX1 : u_T := fun k => match k with
  | _ => ("", "", "", false)
def tyX1 : Nat → FieldType := fun k => match k with
  | _ => .int
abbrev wsX10 : List Cond := u_ws RX1 TX1 0
theorem nmX1 : ∀ a, a < 0 → ∀ b, b < 0 → a ≠ b → (TX1 a).2.1 ≠ (TX1 b).2.1 := by decide +kernel
theorem tyX1_ok : ∀ k, k < 0 → parseFieldDescriptor (TX1 k).2.2.1 = some (tyX1 k) := by decide +kernel
abbrev cX1_init : ByteArray := prog_3_method_1_code
def yX1_init : MethodName := ⟨RX1, "<init>", "()V"⟩
abbrev cX1_kind : ByteArray := prog_3_method_2_code
def yX1_kind : MethodName := ⟨RX1, "kind", "()I"⟩
abbrev cX1_isOf : ByteArray := prog_3_method_3_code
def yX1_isOf : MethodName := ⟨RX1, "isOf", "(I)Z"⟩
abbrev cX1_speaks : ByteArray := prog_3_method_4_code
def yX1_speaks : MethodName := ⟨RX1, "speaks", "(II)I"⟩
abbrev cX1_heats : ByteArray := prog_3_method_5_code
def yX1_heats : MethodName := ⟨RX1, "heats", "(I)I"⟩
abbrev cX1_shifts : ByteArray := prog_3_method_6_code
def yX1_shifts : MethodName := ⟨RX1, "shifts", "(II)I"⟩
abbrev cX1_worth : ByteArray := prog_3_method_7_code
def yX1_worth : MethodName := ⟨RX1, "worth", "(I)I"⟩
def RX2 : String := "ArguedFerry$Married"
def TX2 : u_T := fun k => match k with
  | _ => ("", "", "", false)
def tyX2 : Nat → FieldType := fun k => match k with
  | _ => .int
abbrev wsX20 : List Cond := u_ws RX2 TX2 0
theorem nmX2 : ∀ a, a < 0 → ∀ b, b < 0 → a ≠ b → (TX2 a).2.1 ≠ (TX2 b).2.1 := by decide +kernel
theorem tyX2_ok : ∀ k, k < 0 → parseFieldDescriptor (TX2 k).2.2.1 = some (tyX2 k) := by decide +kernel
abbrev cX2_init : ByteArray := prog_4_method_1_code
def yX2_init : MethodName := ⟨RX2, "<init>", "()V"⟩
abbrev cX2_kind : ByteArray := prog_4_method_2_code
def yX2_kind : MethodName := ⟨RX2, "kind", "()I"⟩
abbrev cX2_isOf : ByteArray := prog_4_method_3_code
def yX2_isOf : MethodName := ⟨RX2, "isOf", "(I)Z"⟩
abbrev cX2_speaks : ByteArray := prog_4_method_4_code
def yX2_speaks : MethodName := ⟨RX2, "speaks", "(II)I"⟩
abbrev cX2_heats : ByteArray := prog_4_method_5_code
def yX2_heats : MethodName := ⟨RX2, "heats", "(I)I"⟩
abbrev cX2_worth : ByteArray := prog_4_method_6_code
def yX2_worth : MethodName := ⟨RX2, "worth", "(I)I"⟩
def RX3 : String := "ArguedFerry$Nature"
def TX3 : u_T := fun k => match k with
  | _ => ("", "", "", false)
def tyX3 : Nat → FieldType := fun k => match k with
  | _ => .int
abbrev wsX30 : List Cond := u_ws RX3 TX3 0
theorem nmX3 : ∀ a, a < 0 → ∀ b, b < 0 → a ≠ b → (TX3 a).2.1 ≠ (TX3 b).2.1 := by decide +kernel
theorem tyX3_ok : ∀ k, k < 0 → parseFieldDescriptor (TX3 k).2.2.1 = some (tyX3 k) := by decide +kernel
abbrev cX3_init : ByteArray := prog_5_method_1_code
def yX3_init : MethodName := ⟨RX3, "<init>", "()V"⟩
abbrev cX3_kind : ByteArray := prog_5_method_2_code
def yX3_kind : MethodName := ⟨RX3, "kind", "()I"⟩
abbrev cX3_isOf : ByteArray := prog_5_method_3_code
def yX3_isOf : MethodName := ⟨RX3, "isOf", "(I)Z"⟩
abbrev cX3_speaks : ByteArray := prog_5_method_4_code
def yX3_speaks : MethodName := ⟨RX3, "speaks", "(II)I"⟩
abbrev cX3_heats : ByteArray := prog_5_method_5_code
def yX3_heats : MethodName := ⟨RX3, "heats", "(I)I"⟩
abbrev cX3_shifts : ByteArray := prog_5_method_6_code
def yX3_shifts : MethodName := ⟨RX3, "shifts", "(II)I"⟩
abbrev cX3_worth : ByteArray := prog_5_method_7_code
def yX3_worth : MethodName := ⟨RX3, "worth", "(I)I"⟩
def RX4 : String := "ArguedFerry$Passenger"
def TX4 : u_T := fun k => match k with
  | 0 => ("ArguedFerry$Passenger", "nature", "LArguedFerry$Nature;", false)
  | 1 => ("ArguedFerry$Passenger", "bank", "I", false)
  | 2 => ("ArguedFerry$Passenger", "temper", "I", false)
  | _ => ("ArguedFerry$Passenger", "views", "[I", true)
def tyX4 : Nat → FieldType := fun k => match k with
  | 0 => .object "ArguedFerry$Nature"
  | 1 => .int
  | 2 => .int
  | _ => .array .int
abbrev wsX40 : List Cond := u_ws RX4 TX4 4
theorem nmX4 : ∀ a, a < 4 → ∀ b, b < 4 → a ≠ b → (TX4 a).2.1 ≠ (TX4 b).2.1 := by decide +kernel
theorem tyX4_ok : ∀ k, k < 4 → parseFieldDescriptor (TX4 k).2.2.1 = some (tyX4 k) := by decide +kernel
abbrev cX4_init : ByteArray := prog_6_method_1_code
def yX4_init : MethodName := ⟨RX4, "<init>", "(LArguedFerry$Nature;)V"⟩
abbrev cX4_begin : ByteArray := prog_6_method_2_code
def yX4_begin : MethodName := ⟨RX4, "begin", "(LArguedFerry$Nature;I)V"⟩
abbrev cX4_becomeAs : ByteArray := prog_6_method_3_code
def yX4_becomeAs : MethodName := ⟨RX4, "becomeAs", "(LArguedFerry$Passenger;)V"⟩
abbrev cX4_apartFrom : ByteArray := prog_6_method_4_code
def yX4_apartFrom : MethodName := ⟨RX4, "apartFrom", "(LArguedFerry$Passenger;I)I"⟩
abbrev cX4_heatUp : ByteArray := prog_6_method_5_code
def yX4_heatUp : MethodName := ⟨RX4, "heatUp", "(I)V"⟩
def RX5 : String := "ArguedFerry$Row"
def TX5 : u_T := fun k => match k with
  | 0 => ("ArguedFerry$Row", "sort", "I", false)
  | 1 => ("ArguedFerry$Row", "size", "I", false)
  | _ => ("ArguedFerry$Row", "places", "[I", true)
def tyX5 : Nat → FieldType := fun k => match k with
  | 0 => .int
  | 1 => .int
  | _ => .array .int
abbrev wsX50 : List Cond := u_ws RX5 TX5 3
theorem nmX5 : ∀ a, a < 3 → ∀ b, b < 3 → a ≠ b → (TX5 a).2.1 ≠ (TX5 b).2.1 := by decide +kernel
theorem tyX5_ok : ∀ k, k < 3 → parseFieldDescriptor (TX5 k).2.2.1 = some (tyX5 k) := by decide +kernel
abbrev cX5_init : ByteArray := prog_7_method_1_code
def yX5_init : MethodName := ⟨RX5, "<init>", "()V"⟩
abbrev cX5_become : ByteArray := prog_7_method_2_code
def yX5_become : MethodName := ⟨RX5, "become", "(II)V"⟩
abbrev cX5_becomeAs : ByteArray := prog_7_method_3_code
def yX5_becomeAs : MethodName := ⟨RX5, "becomeAs", "(LArguedFerry$Row;)V"⟩
abbrev cX5_isMissing : ByteArray := prog_7_method_4_code
def yX5_isMissing : MethodName := ⟨RX5, "isMissing", "()Z"⟩
abbrev cX5_hasPlace : ByteArray := prog_7_method_5_code
def yX5_hasPlace : MethodName := ⟨RX5, "hasPlace", "(I)Z"⟩
abbrev cX5_hasPlaces : ByteArray := prog_7_method_6_code
def yX5_hasPlaces : MethodName := ⟨RX5, "hasPlaces", "(II)Z"⟩
abbrev cX5_isNumber : ByteArray := prog_7_method_7_code
def yX5_isNumber : MethodName := ⟨RX5, "isNumber", "(I)Z"⟩
def RX6 : String := "ArguedFerry$Silent"
def TX6 : u_T := fun k => match k with
  | _ => ("", "", "", false)
def tyX6 : Nat → FieldType := fun k => match k with
  | _ => .int
abbrev wsX60 : List Cond := u_ws RX6 TX6 0
theorem nmX6 : ∀ a, a < 0 → ∀ b, b < 0 → a ≠ b → (TX6 a).2.1 ≠ (TX6 b).2.1 := by decide +kernel
theorem tyX6_ok : ∀ k, k < 0 → parseFieldDescriptor (TX6 k).2.2.1 = some (tyX6 k) := by decide +kernel
abbrev cX6_init : ByteArray := prog_8_method_1_code
def yX6_init : MethodName := ⟨RX6, "<init>", "()V"⟩
abbrev cX6_kind : ByteArray := prog_8_method_2_code
def yX6_kind : MethodName := ⟨RX6, "kind", "()I"⟩
abbrev cX6_isOf : ByteArray := prog_8_method_3_code
def yX6_isOf : MethodName := ⟨RX6, "isOf", "(I)Z"⟩
abbrev cX6_speaks : ByteArray := prog_8_method_4_code
def yX6_speaks : MethodName := ⟨RX6, "speaks", "(II)I"⟩
abbrev cX6_shifts : ByteArray := prog_8_method_5_code
def yX6_shifts : MethodName := ⟨RX6, "shifts", "(II)I"⟩
abbrev cX6_worth : ByteArray := prog_8_method_6_code
def yX6_worth : MethodName := ⟨RX6, "worth", "(I)I"⟩
def RX7 : String := "ArguedFerry$Tape"
def TX7 : u_T := fun k => match k with
  | 0 => ("ArguedFerry$Tape", "bytes", "[I", true)
  | 1 => ("ArguedFerry$Tape", "length", "I", false)
  | 2 => ("ArguedFerry$Tape", "start", "I", false)
  | 3 => ("ArguedFerry$Tape", "end", "I", false)
  | 4 => ("ArguedFerry$Tape", "token", "I", false)
  | _ => ("ArguedFerry$Tape", "taken", "LArguedFerry$Text;", false)
def tyX7 : Nat → FieldType := fun k => match k with
  | 0 => .array .int
  | 1 => .int
  | 2 => .int
  | 3 => .int
  | 4 => .int
  | _ => .object "ArguedFerry$Text"
abbrev wsX70 : List Cond := u_ws RX7 TX7 6
theorem nmX7 : ∀ a, a < 6 → ∀ b, b < 6 → a ≠ b → (TX7 a).2.1 ≠ (TX7 b).2.1 := by decide +kernel
theorem tyX7_ok : ∀ k, k < 6 → parseFieldDescriptor (TX7 k).2.2.1 = some (tyX7 k) := by decide +kernel
abbrev cX7_init : ByteArray := prog_9_method_1_code
def yX7_init : MethodName := ⟨RX7, "<init>", "()V"⟩
abbrev cX7_append : ByteArray := prog_9_method_2_code
def yX7_append : MethodName := ⟨RX7, "append", "(I)V"⟩
abbrev cX7_takeText : ByteArray := prog_9_method_3_code
def yX7_takeText : MethodName := ⟨RX7, "takeText", "(LArguedFerry$Text;)Z"⟩
abbrev cX7_goOn : ByteArray := prog_9_method_4_code
def yX7_goOn : MethodName := ⟨RX7, "goOn", "()V"⟩
abbrev cX7_isWord : ByteArray := prog_9_method_5_code
def yX7_isWord : MethodName := ⟨RX7, "isWord", "(I)Z"⟩
abbrev cX7_sortOf : ByteArray := prog_9_method_6_code
def yX7_sortOf : MethodName := ⟨RX7, "sortOf", "(I)I"⟩
abbrev cX7_keyHere : ByteArray := prog_9_method_7_code
def yX7_keyHere : MethodName := ⟨RX7, "keyHere", "()I"⟩
abbrev cX7_isWordHere : ByteArray := prog_9_method_8_code
def yX7_isWordHere : MethodName := ⟨RX7, "isWordHere", "(Ljava/lang/String;)Z"⟩
abbrev cX7_takeOr : ByteArray := prog_9_method_9_code
def yX7_takeOr : MethodName := ⟨RX7, "takeOr", "(II)Z"⟩
abbrev cX7_takeAnd : ByteArray := prog_9_method_10_code
def yX7_takeAnd : MethodName := ⟨RX7, "takeAnd", "(II)Z"⟩
abbrev cX7_takeTest : ByteArray := prog_9_method_11_code
def yX7_takeTest : MethodName := ⟨RX7, "takeTest", "(II)Z"⟩
abbrev cX7_takeSum : ByteArray := prog_9_method_12_code
def yX7_takeSum : MethodName := ⟨RX7, "takeSum", "(II)Z"⟩
abbrev cX7_takeTerm : ByteArray := prog_9_method_13_code
def yX7_takeTerm : MethodName := ⟨RX7, "takeTerm", "(II)Z"⟩
abbrev cX7_takePiece : ByteArray := prog_9_method_14_code
def yX7_takePiece : MethodName := ⟨RX7, "takePiece", "(II)Z"⟩
abbrev cX7_takeNot : ByteArray := prog_9_method_15_code
def yX7_takeNot : MethodName := ⟨RX7, "takeNot", "(II)Z"⟩
abbrev cX7_takeBracket : ByteArray := prog_9_method_16_code
def yX7_takeBracket : MethodName := ⟨RX7, "takeBracket", "(II)Z"⟩
abbrev cX7_takeNumber : ByteArray := prog_9_method_17_code
def yX7_takeNumber : MethodName := ⟨RX7, "takeNumber", "()Z"⟩
abbrev cX7_takeName : ByteArray := prog_9_method_18_code
def yX7_takeName : MethodName := ⟨RX7, "takeName", "()Z"⟩
def RX8 : String := "ArguedFerry$Text"
def TX8 : u_T := fun k => match k with
  | 0 => ("ArguedFerry$Text", "number", "I", true)
  | 1 => ("ArguedFerry$Text", "key", "I", false)
  | 2 => ("ArguedFerry$Text", "operands", "I", false)
  | 3 => ("ArguedFerry$Text", "length", "I", false)
  | 4 => ("ArguedFerry$Text", "codes", "[I", true)
  | _ => ("ArguedFerry$Text", "stack", "[I", true)
def tyX8 : Nat → FieldType := fun k => match k with
  | 0 => .int
  | 1 => .int
  | 2 => .int
  | 3 => .int
  | 4 => .array .int
  | _ => .array .int
abbrev wsX80 : List Cond := u_ws RX8 TX8 6
theorem nmX8 : ∀ a, a < 6 → ∀ b, b < 6 → a ≠ b → (TX8 a).2.1 ≠ (TX8 b).2.1 := by decide +kernel
theorem tyX8_ok : ∀ k, k < 6 → parseFieldDescriptor (TX8 k).2.2.1 = some (tyX8 k) := by decide +kernel
abbrev cX8_init : ByteArray := prog_10_method_1_code
def yX8_init : MethodName := ⟨RX8, "<init>", "(I)V"⟩
abbrev cX8_begin : ByteArray := prog_10_method_2_code
def yX8_begin : MethodName := ⟨RX8, "begin", "(I)V"⟩
abbrev cX8_addNumber : ByteArray := prog_10_method_3_code
def yX8_addNumber : MethodName := ⟨RX8, "addNumber", "(I)V"⟩
abbrev cX8_addName : ByteArray := prog_10_method_4_code
def yX8_addName : MethodName := ⟨RX8, "addName", "(I)V"⟩
abbrev cX8_addSign : ByteArray := prog_10_method_5_code
def yX8_addSign : MethodName := ⟨RX8, "addSign", "(I)V"⟩
abbrev cX8_addCode : ByteArray := prog_10_method_6_code
def yX8_addCode : MethodName := ⟨RX8, "addCode", "(I)V"⟩
abbrev cX8_valueOf : ByteArray := prog_10_method_7_code
def yX8_valueOf : MethodName := ⟨RX8, "valueOf", "(III)I"⟩
abbrev cX8_workedOut : ByteArray := prog_10_method_8_code
def yX8_workedOut : MethodName := ⟨RX8, "workedOut", "(III)I"⟩
def RX9 : String := "ArguedFerry$Twice"
def TX9 : u_T := fun k => match k with
  | _ => ("", "", "", false)
def tyX9 : Nat → FieldType := fun k => match k with
  | _ => .int
abbrev wsX90 : List Cond := u_ws RX9 TX9 0
theorem nmX9 : ∀ a, a < 0 → ∀ b, b < 0 → a ≠ b → (TX9 a).2.1 ≠ (TX9 b).2.1 := by decide +kernel
theorem tyX9_ok : ∀ k, k < 0 → parseFieldDescriptor (TX9 k).2.2.1 = some (tyX9 k) := by decide +kernel
abbrev cX9_init : ByteArray := prog_11_method_1_code
def yX9_init : MethodName := ⟨RX9, "<init>", "()V"⟩
abbrev cX9_kind : ByteArray := prog_11_method_2_code
def yX9_kind : MethodName := ⟨RX9, "kind", "()I"⟩
abbrev cX9_isOf : ByteArray := prog_11_method_3_code
def yX9_isOf : MethodName := ⟨RX9, "isOf", "(I)Z"⟩
abbrev cX9_speaks : ByteArray := prog_11_method_4_code
def yX9_speaks : MethodName := ⟨RX9, "speaks", "(II)I"⟩
abbrev cX9_heats : ByteArray := prog_11_method_5_code
def yX9_heats : MethodName := ⟨RX9, "heats", "(I)I"⟩
abbrev cX9_shifts : ByteArray := prog_11_method_6_code
def yX9_shifts : MethodName := ⟨RX9, "shifts", "(II)I"⟩
abbrev cX9_worth : ByteArray := prog_11_method_7_code
def yX9_worth : MethodName := ⟨RX9, "worth", "(I)I"⟩
def RX10 : String := "ArguedFerry$World"
def TX10 : u_T := fun k => match k with
  | 0 => ("ArguedFerry$World", "crew", "[LArguedFerry$Passenger;", true)
  | 1 => ("ArguedFerry$World", "many", "I", false)
  | 2 => ("ArguedFerry$World", "side", "I", false)
  | 3 => ("ArguedFerry$World", "way", "I", false)
  | 4 => ("ArguedFerry$World", "first", "I", false)
  | 5 => ("ArguedFerry$World", "second", "I", false)
  | 6 => ("ArguedFerry$World", "matter", "I", false)
  | 7 => ("ArguedFerry$World", "wind", "I", false)
  | 8 => ("ArguedFerry$World", "limit", "I", false)
  | 9 => ("ArguedFerry$World", "tally", "[I", true)
  | 10 => ("ArguedFerry$World", "minute", "I", false)
  | 11 => ("ArguedFerry$World", "z", "I", false)
  | 12 => ("ArguedFerry$World", "laws", "[LArguedFerry$Text;", true)
  | _ => ("ArguedFerry$World", "textsTold", "I", false)
def tyX10 : Nat → FieldType := fun k => match k with
  | 0 => .array (.object "ArguedFerry$Passenger")
  | 1 => .int
  | 2 => .int
  | 3 => .int
  | 4 => .int
  | 5 => .int
  | 6 => .int
  | 7 => .int
  | 8 => .int
  | 9 => .array .int
  | 10 => .int
  | 11 => .int
  | 12 => .array (.object "ArguedFerry$Text")
  | _ => .int
abbrev wsX100 : List Cond := u_ws RX10 TX10 14
theorem nmX10 : ∀ a, a < 14 → ∀ b, b < 14 → a ≠ b → (TX10 a).2.1 ≠ (TX10 b).2.1 := by decide +kernel
theorem tyX10_ok : ∀ k, k < 14 → parseFieldDescriptor (TX10 k).2.2.1 = some (tyX10 k) := by decide +kernel
abbrev cX10_init : ByteArray := prog_12_method_1_code
def yX10_init : MethodName := ⟨RX10, "<init>", "(LArguedFerry$Nature;)V"⟩
abbrev cX10_becomeAs : ByteArray := prog_12_method_2_code
def yX10_becomeAs : MethodName := ⟨RX10, "becomeAs", "(LArguedFerry$World;)V"⟩
abbrev cX10_draw : ByteArray := prog_12_method_3_code
def yX10_draw : MethodName := ⟨RX10, "draw", "()I"⟩
abbrev cX10_standing : ByteArray := prog_12_method_4_code
def yX10_standing : MethodName := ⟨RX10, "standing", "(I)I"⟩
abbrev cX10_heatOfAll : ByteArray := prog_12_method_5_code
def yX10_heatOfAll : MethodName := ⟨RX10, "heatOfAll", "()I"⟩
abbrev cX10_speechOf : ByteArray := prog_12_method_6_code
def yX10_speechOf : MethodName := ⟨RX10, "speechOf", "(LArguedFerry$Passenger;I)I"⟩
abbrev cX10_passMinutes : ByteArray := prog_12_method_7_code
def yX10_passMinutes : MethodName := ⟨RX10, "passMinutes", "(I)V"⟩
abbrev cX10_passMinute : ByteArray := prog_12_method_8_code
def yX10_passMinute : MethodName := ⟨RX10, "passMinute", "()V"⟩
abbrev cX10_goAboard : ByteArray := prog_12_method_9_code
def yX10_goAboard : MethodName := ⟨RX10, "goAboard", "(III)V"⟩
abbrev cX10_thoseOver : ByteArray := prog_12_method_10_code
def yX10_thoseOver : MethodName := ⟨RX10, "thoseOver", "()I"⟩
abbrev cX10_nextAshore : ByteArray := prog_12_method_11_code
def yX10_nextAshore : MethodName := ⟨RX10, "nextAshore", "(I)I"⟩
abbrev cX10_setOff : ByteArray := prog_12_method_12_code
def yX10_setOff : MethodName := ⟨RX10, "setOff", "()V"⟩
abbrev cX10_argueOn : ByteArray := prog_12_method_13_code
def yX10_argueOn : MethodName := ⟨RX10, "argueOn", "()V"⟩
abbrev cX10_goAshore : ByteArray := prog_12_method_14_code
def yX10_goAshore : MethodName := ⟨RX10, "goAshore", "()V"⟩
abbrev cX10_shiftViews : ByteArray := prog_12_method_15_code
def yX10_shiftViews : MethodName := ⟨RX10, "shiftViews", "(LArguedFerry$Passenger;LArguedFerry$Passenger;)V"⟩
def RX11 : String := "ArguedFerry"
def TX11 : u_T := fun k => match k with
  | 0 => ("ArguedFerry", "natures", "[LArguedFerry$Nature;", true)
  | 1 => ("ArguedFerry", "now", "LArguedFerry$World;", true)
  | 2 => ("ArguedFerry", "image", "LArguedFerry$World;", true)
  | 3 => ("ArguedFerry", "thought", "LArguedFerry$World;", true)
  | 4 => ("ArguedFerry", "hasImage", "Z", false)
  | 5 => ("ArguedFerry", "texts", "[LArguedFerry$Text;", true)
  | 6 => ("ArguedFerry", "tape", "LArguedFerry$Tape;", true)
  | 7 => ("ArguedFerry", "sheets", "[LArguedFerry$Row;", true)
  | 8 => ("ArguedFerry", "things", "[I", true)
  | 9 => ("ArguedFerry", "laidPassengers", "[LArguedFerry$Passenger;", true)
  | 10 => ("ArguedFerry", "laidRows", "[LArguedFerry$Row;", true)
  | 11 => ("ArguedFerry", "laidNumbers", "[I", true)
  | 12 => ("ArguedFerry", "waiting", "[I", true)
  | 13 => ("ArguedFerry", "waits", "I", false)
  | 14 => ("ArguedFerry", "partners", "[I", true)
  | 15 => ("ArguedFerry", "mostPairs", "[I", true)
  | _ => ("ArguedFerry", "differences", "[I", true)
def tyX11 : Nat → FieldType := fun k => match k with
  | 0 => .array (.object "ArguedFerry$Nature")
  | 1 => .object "ArguedFerry$World"
  | 2 => .object "ArguedFerry$World"
  | 3 => .object "ArguedFerry$World"
  | 4 => .boolean
  | 5 => .array (.object "ArguedFerry$Text")
  | 6 => .object "ArguedFerry$Tape"
  | 7 => .array (.object "ArguedFerry$Row")
  | 8 => .array .int
  | 9 => .array (.object "ArguedFerry$Passenger")
  | 10 => .array (.object "ArguedFerry$Row")
  | 11 => .array .int
  | 12 => .array .int
  | 13 => .int
  | 14 => .array .int
  | 15 => .array .int
  | _ => .array .int
abbrev wsX110 : List Cond := u_ws RX11 TX11 17
theorem nmX11 : ∀ a, a < 17 → ∀ b, b < 17 → a ≠ b → (TX11 a).2.1 ≠ (TX11 b).2.1 := by decide +kernel
theorem tyX11_ok : ∀ k, k < 17 → parseFieldDescriptor (TX11 k).2.2.1 = some (tyX11 k) := by decide +kernel
abbrev cX11_init : ByteArray := prog_1_method_1_code
def yX11_init : MethodName := ⟨RX11, "<init>", "()V"⟩
abbrev cX11_one : ByteArray := prog_1_method_2_code
def yX11_one : MethodName := ⟨RX11, "one", "(II)I"⟩
abbrev cX11_told : ByteArray := prog_1_method_3_code
def yX11_told : MethodName := ⟨RX11, "told", "(II)I"⟩
abbrev cX11_view : ByteArray := prog_1_method_4_code
def yX11_view : MethodName := ⟨RX11, "view", "(II)I"⟩
abbrev cX11_believes : ByteArray := prog_1_method_5_code
def yX11_believes : MethodName := ⟨RX11, "believes", "(III)I"⟩
abbrev cX11_as : ByteArray := prog_1_method_6_code
def yX11_as : MethodName := ⟨RX11, "as", "(II)I"⟩
abbrev cX11_turns : ByteArray := prog_1_method_7_code
def yX11_turns : MethodName := ⟨RX11, "turns", "(II)I"⟩
abbrev cX11_set : ByteArray := prog_1_method_8_code
def yX11_set : MethodName := ⟨RX11, "set", "(III)I"⟩
abbrev cX11_rule : ByteArray := prog_1_method_9_code
def yX11_rule : MethodName := ⟨RX11, "rule", "(II)I"⟩
abbrev cX11_deal : ByteArray := prog_1_method_10_code
def yX11_deal : MethodName := ⟨RX11, "deal", "(I)I"⟩
abbrev cX11_seed : ByteArray := prog_1_method_11_code
def yX11_seed : MethodName := ⟨RX11, "seed", "(I)I"⟩
abbrev cX11_boat : ByteArray := prog_1_method_12_code
def yX11_boat : MethodName := ⟨RX11, "boat", "(I)I"⟩
abbrev cX11_argues : ByteArray := prog_1_method_13_code
def yX11_argues : MethodName := ⟨RX11, "argues", "(IIII)I"⟩
abbrev cX11_minutes : ByteArray := prog_1_method_14_code
def yX11_minutes : MethodName := ⟨RX11, "minutes", "(I)I"⟩
abbrev cX11_ferry : ByteArray := prog_1_method_15_code
def yX11_ferry : MethodName := ⟨RX11, "ferry", "(I)I"⟩
abbrev cX11_over : ByteArray := prog_1_method_16_code
def yX11_over : MethodName := ⟨RX11, "over", "(III)I"⟩
abbrev cX11_settles : ByteArray := prog_1_method_17_code
def yX11_settles : MethodName := ⟨RX11, "settles", "(III)I"⟩
abbrev cX11_pairs : ByteArray := prog_1_method_18_code
def yX11_pairs : MethodName := ⟨RX11, "pairs", "(I)I"⟩
abbrev cX11_behind : ByteArray := prog_1_method_19_code
def yX11_behind : MethodName := ⟨RX11, "behind", "(II)I"⟩
abbrev cX11_lands : ByteArray := prog_1_method_20_code
def yX11_lands : MethodName := ⟨RX11, "lands", "(I)I"⟩
abbrev cX11_calm : ByteArray := prog_1_method_21_code
def yX11_calm : MethodName := ⟨RX11, "calm", "(II)I"⟩
abbrev cX11_becomes : ByteArray := prog_1_method_22_code
def yX11_becomes : MethodName := ⟨RX11, "becomes", "(III)I"⟩
abbrev cX11_like : ByteArray := prog_1_method_23_code
def yX11_like : MethodName := ⟨RX11, "like", "(II)I"⟩
abbrev cX11_fee : ByteArray := prog_1_method_24_code
def yX11_fee : MethodName := ⟨RX11, "fee", "()I"⟩
abbrev cX11_fine : ByteArray := prog_1_method_25_code
def yX11_fine : MethodName := ⟨RX11, "fine", "(I)I"⟩
abbrev cX11_feed : ByteArray := prog_1_method_26_code
def yX11_feed : MethodName := ⟨RX11, "feed", "(III)I"⟩
abbrev cX11_trim : ByteArray := prog_1_method_27_code
def yX11_trim : MethodName := ⟨RX11, "trim", "(I)I"⟩
abbrev cX11_text : ByteArray := prog_1_method_28_code
def yX11_text : MethodName := ⟨RX11, "text", "()I"⟩
abbrev cX11_textTold : ByteArray := prog_1_method_29_code
def yX11_textTold : MethodName := ⟨RX11, "textTold", "(II)I"⟩
abbrev cX11_why : ByteArray := prog_1_method_30_code
def yX11_why : MethodName := ⟨RX11, "why", "(I)I"⟩
abbrev cX11_sheet : ByteArray := prog_1_method_31_code
def yX11_sheet : MethodName := ⟨RX11, "sheet", "(III)I"⟩
abbrev cX11_mark : ByteArray := prog_1_method_32_code
def yX11_mark : MethodName := ⟨RX11, "mark", "(III)I"⟩
abbrev cX11_pour : ByteArray := prog_1_method_33_code
def yX11_pour : MethodName := ⟨RX11, "pour", "(I)I"⟩
abbrev cX11_reads : ByteArray := prog_1_method_34_code
def yX11_reads : MethodName := ⟨RX11, "reads", "(I)I"⟩
abbrev cX11_copy : ByteArray := prog_1_method_35_code
def yX11_copy : MethodName := ⟨RX11, "copy", "(IIIII)I"⟩
abbrev cX11_lay : ByteArray := prog_1_method_36_code
def yX11_lay : MethodName := ⟨RX11, "lay", "(III)I"⟩
abbrev cX11_ask : ByteArray := prog_1_method_37_code
def yX11_ask : MethodName := ⟨RX11, "ask", "(II)I"⟩
abbrev cX11_item : ByteArray := prog_1_method_38_code
def yX11_item : MethodName := ⟨RX11, "item", "(II)I"⟩
abbrev cX11_rest : ByteArray := prog_1_method_39_code
def yX11_rest : MethodName := ⟨RX11, "rest", "(II)I"⟩
abbrev cX11_tell : ByteArray := prog_1_method_40_code
def yX11_tell : MethodName := ⟨RX11, "tell", "(I)I"⟩
abbrev cX11_check : ByteArray := prog_1_method_41_code
def yX11_check : MethodName := ⟨RX11, "check", "(I)I"⟩
abbrev cX11_keep : ByteArray := prog_1_method_42_code
def yX11_keep : MethodName := ⟨RX11, "keep", "()I"⟩
abbrev cX11_back : ByteArray := prog_1_method_43_code
def yX11_back : MethodName := ⟨RX11, "back", "()I"⟩
abbrev cX11_count : ByteArray := prog_1_method_44_code
def yX11_count : MethodName := ⟨RX11, "count", "(I)I"⟩
abbrev cX11_within : ByteArray := prog_1_method_45_code
def yX11_within : MethodName := ⟨RX11, "within", "(III)Z"⟩
abbrev cX11_held : ByteArray := prog_1_method_46_code
def yX11_held : MethodName := ⟨RX11, "held", "(I)I"⟩
abbrev cX11_isKind : ByteArray := prog_1_method_47_code
def yX11_isKind : MethodName := ⟨RX11, "isKind", "(I)Z"⟩
abbrev cX11_isBank : ByteArray := prog_1_method_48_code
def yX11_isBank : MethodName := ⟨RX11, "isBank", "(I)Z"⟩
abbrev cX11_isMatter : ByteArray := prog_1_method_49_code
def yX11_isMatter : MethodName := ⟨RX11, "isMatter", "(I)Z"⟩
abbrev cX11_isSheet : ByteArray := prog_1_method_50_code
def yX11_isSheet : MethodName := ⟨RX11, "isSheet", "(I)Z"⟩
abbrev cX11_isSlot : ByteArray := prog_1_method_51_code
def yX11_isSlot : MethodName := ⟨RX11, "isSlot", "(I)Z"⟩
abbrev cX11_isOne : ByteArray := prog_1_method_52_code
def yX11_isOne : MethodName := ⟨RX11, "isOne", "(I)Z"⟩
abbrev cX11_areTwo : ByteArray := prog_1_method_53_code
def yX11_areTwo : MethodName := ⟨RX11, "areTwo", "(II)Z"⟩
abbrev cX11_waitsAt : ByteArray := prog_1_method_54_code
def yX11_waitsAt : MethodName := ⟨RX11, "waitsAt", "(III)Z"⟩
abbrev cX11_minutesOver : ByteArray := prog_1_method_55_code
def yX11_minutesOver : MethodName := ⟨RX11, "minutesOver", "(III)I"⟩
abbrev cX11_findPartners : ByteArray := prog_1_method_56_code
def yX11_findPartners : MethodName := ⟨RX11, "findPartners", "(I)V"⟩
abbrev cX11_pairsOf : ByteArray := prog_1_method_57_code
def yX11_pairsOf : MethodName := ⟨RX11, "pairsOf", "(I)I"⟩
abbrev cX11_sumDifferences : ByteArray := prog_1_method_58_code
def yX11_sumDifferences : MethodName := ⟨RX11, "sumDifferences", "(LArguedFerry$Row;)V"⟩
def RX12 : String := "ArguedFerryModel"
def TX12 : u_T := fun k => match k with
  | 0 => ("ArguedFerryModel", "now", "[I", true)
  | 1 => ("ArguedFerryModel", "image", "[I", true)
  | 2 => ("ArguedFerryModel", "aside", "[I", true)
  | 3 => ("ArguedFerryModel", "hasImage", "Z", false)
  | 4 => ("ArguedFerryModel", "before", "[I", true)
  | 5 => ("ArguedFerryModel", "pair", "[Z", true)
  | 6 => ("ArguedFerryModel", "off", "[I", true)
  | 7 => ("ArguedFerryModel", "tape", "[I", true)
  | 8 => ("ArguedFerryModel", "taped", "I", false)
  | 9 => ("ArguedFerryModel", "next", "I", false)
  | 10 => ("ArguedFerryModel", "from", "I", false)
  | 11 => ("ArguedFerryModel", "token", "I", false)
  | 12 => ("ArguedFerryModel", "value", "I", false)
  | 13 => ("ArguedFerryModel", "ended", "I", false)
  | 14 => ("ArguedFerryModel", "key", "I", false)
  | 15 => ("ArguedFerryModel", "keys", "[C", true)
  | 16 => ("ArguedFerryModel", "keyAt", "[I", true)
  | 17 => ("ArguedFerryModel", "code", "[I", true)
  | 18 => ("ArguedFerryModel", "codes", "I", false)
  | 19 => ("ArguedFerryModel", "atoms", "I", false)
  | 20 => ("ArguedFerryModel", "waits", "[I", true)
  | 21 => ("ArguedFerryModel", "held", "I", false)
  | 22 => ("ArguedFerryModel", "tested", "[Z", true)
  | 23 => ("ArguedFerryModel", "stack", "[I", true)
  | 24 => ("ArguedFerryModel", "facts", "[I", true)
  | 25 => ("ArguedFerryModel", "sorts", "[I", true)
  | 26 => ("ArguedFerryModel", "sizes", "[I", true)
  | 27 => ("ArguedFerryModel", "cells", "[I", true)
  | 28 => ("ArguedFerryModel", "holds", "[I", true)
  | 29 => ("ArguedFerryModel", "holdsA", "[I", true)
  | 30 => ("ArguedFerryModel", "holdsB", "[I", true)
  | 31 => ("ArguedFerryModel", "heldCells", "[I", true)
  | 32 => ("ArguedFerryModel", "moved", "[I", true)
  | 33 => ("ArguedFerryModel", "tells", "[I", true)
  | _ => ("ArguedFerryModel", "waiting", "I", false)
def tyX12 : Nat → FieldType := fun k => match k with
  | 0 => .array .int
  | 1 => .array .int
  | 2 => .array .int
  | 3 => .boolean
  | 4 => .array .int
  | 5 => .array .boolean
  | 6 => .array .int
  | 7 => .array .int
  | 8 => .int
  | 9 => .int
  | 10 => .int
  | 11 => .int
  | 12 => .int
  | 13 => .int
  | 14 => .int
  | 15 => .array .char
  | 16 => .array .int
  | 17 => .array .int
  | 18 => .int
  | 19 => .int
  | 20 => .array .int
  | 21 => .int
  | 22 => .array .boolean
  | 23 => .array .int
  | 24 => .array .int
  | 25 => .array .int
  | 26 => .array .int
  | 27 => .array .int
  | 28 => .array .int
  | 29 => .array .int
  | 30 => .array .int
  | 31 => .array .int
  | 32 => .array .int
  | 33 => .array .int
  | _ => .int
abbrev wsX120 : List Cond := u_ws RX12 TX12 35
theorem nmX12 : ∀ a, a < 35 → ∀ b, b < 35 → a ≠ b → (TX12 a).2.1 ≠ (TX12 b).2.1 := by decide +kernel
theorem tyX12_ok : ∀ k, k < 35 → parseFieldDescriptor (TX12 k).2.2.1 = some (tyX12 k) := by decide +kernel
abbrev cX12_init : ByteArray := prog_14_method_1_code
def yX12_init : MethodName := ⟨RX12, "<init>", "()V"⟩
abbrev cX12_in : ByteArray := prog_14_method_2_code
def yX12_in : MethodName := ⟨RX12, "in", "(III)Z"⟩
abbrev cX12_within : ByteArray := prog_14_method_3_code
def yX12_within : MethodName := ⟨RX12, "within", "(III)I"⟩
abbrev cX12_copyAll : ByteArray := prog_14_method_4_code
def yX12_copyAll : MethodName := ⟨RX12, "copyAll", "([I[I)V"⟩
abbrev cX12_isOne : ByteArray := prog_14_method_5_code
def yX12_isOne : MethodName := ⟨RX12, "isOne", "(I)Z"⟩
abbrev cX12_isMatter : ByteArray := prog_14_method_6_code
def yX12_isMatter : MethodName := ⟨RX12, "isMatter", "(I)Z"⟩
abbrev cX12_of : ByteArray := prog_14_method_7_code
def yX12_of : MethodName := ⟨RX12, "of", "(II)I"⟩
abbrev cX12_put : ByteArray := prog_14_method_8_code
def yX12_put : MethodName := ⟨RX12, "put", "(III)V"⟩
abbrev cX12_swaps : ByteArray := prog_14_method_9_code
def yX12_swaps : MethodName := ⟨RX12, "swaps", "(II)I"⟩
abbrev cX12_apart : ByteArray := prog_14_method_10_code
def yX12_apart : MethodName := ⟨RX12, "apart", "(III)I"⟩
abbrev cX12_speaks : ByteArray := prog_14_method_11_code
def yX12_speaks : MethodName := ⟨RX12, "speaks", "(III)I"⟩
abbrev cX12_heats : ByteArray := prog_14_method_12_code
def yX12_heats : MethodName := ⟨RX12, "heats", "(III)I"⟩
abbrev cX12_shifts : ByteArray := prog_14_method_13_code
def yX12_shifts : MethodName := ⟨RX12, "shifts", "(III)I"⟩
abbrev cX12_worthOf : ByteArray := prog_14_method_14_code
def yX12_worthOf : MethodName := ⟨RX12, "worthOf", "(I)I"⟩
abbrev cX12_comes : ByteArray := prog_14_method_15_code
def yX12_comes : MethodName := ⟨RX12, "comes", "(II)I"⟩
abbrev cX12_one : ByteArray := prog_14_method_16_code
def yX12_one : MethodName := ⟨RX12, "one", "(II)I"⟩
abbrev cX12_told : ByteArray := prog_14_method_17_code
def yX12_told : MethodName := ⟨RX12, "told", "(II)I"⟩
abbrev cX12_view : ByteArray := prog_14_method_18_code
def yX12_view : MethodName := ⟨RX12, "view", "(II)I"⟩
abbrev cX12_believes : ByteArray := prog_14_method_19_code
def yX12_believes : MethodName := ⟨RX12, "believes", "(III)I"⟩
abbrev cX12_isUnder : ByteArray := prog_14_method_20_code
def yX12_isUnder : MethodName := ⟨RX12, "isUnder", "(II)Z"⟩
abbrev cX12_as : ByteArray := prog_14_method_21_code
def yX12_as : MethodName := ⟨RX12, "as", "(II)I"⟩
abbrev cX12_turns : ByteArray := prog_14_method_22_code
def yX12_turns : MethodName := ⟨RX12, "turns", "(II)I"⟩
abbrev cX12_set : ByteArray := prog_14_method_23_code
def yX12_set : MethodName := ⟨RX12, "set", "(III)I"⟩
abbrev cX12_rule : ByteArray := prog_14_method_24_code
def yX12_rule : MethodName := ⟨RX12, "rule", "(II)I"⟩
abbrev cX12_draw : ByteArray := prog_14_method_25_code
def yX12_draw : MethodName := ⟨RX12, "draw", "()I"⟩
abbrev cX12_deal : ByteArray := prog_14_method_26_code
def yX12_deal : MethodName := ⟨RX12, "deal", "(I)I"⟩
abbrev cX12_seed : ByteArray := prog_14_method_27_code
def yX12_seed : MethodName := ⟨RX12, "seed", "(I)I"⟩
abbrev cX12_boat : ByteArray := prog_14_method_28_code
def yX12_boat : MethodName := ⟨RX12, "boat", "(I)I"⟩
abbrev cX12_areTwo : ByteArray := prog_14_method_29_code
def yX12_areTwo : MethodName := ⟨RX12, "areTwo", "(II)Z"⟩
abbrev cX12_argues : ByteArray := prog_14_method_30_code
def yX12_argues : MethodName := ⟨RX12, "argues", "(IIII)I"⟩
abbrev cX12_nextAt : ByteArray := prog_14_method_31_code
def yX12_nextAt : MethodName := ⟨RX12, "nextAt", "(II)I"⟩
abbrev cX12_goAboard : ByteArray := prog_14_method_32_code
def yX12_goAboard : MethodName := ⟨RX12, "goAboard", "(II)V"⟩
abbrev cX12_waits : ByteArray := prog_14_method_33_code
def yX12_waits : MethodName := ⟨RX12, "waits", "()V"⟩
abbrev cX12_comesTo : ByteArray := prog_14_method_34_code
def yX12_comesTo : MethodName := ⟨RX12, "comesTo", "(I)V"⟩
abbrev cX12_quarrel : ByteArray := prog_14_method_35_code
def yX12_quarrel : MethodName := ⟨RX12, "quarrel", "(II)V"⟩
abbrev cX12_minute : ByteArray := prog_14_method_36_code
def yX12_minute : MethodName := ⟨RX12, "minute", "()V"⟩
abbrev cX12_goesOn : ByteArray := prog_14_method_37_code
def yX12_goesOn : MethodName := ⟨RX12, "goesOn", "(I)V"⟩
abbrev cX12_across : ByteArray := prog_14_method_38_code
def yX12_across : MethodName := ⟨RX12, "across", "()I"⟩
abbrev cX12_tempers : ByteArray := prog_14_method_39_code
def yX12_tempers : MethodName := ⟨RX12, "tempers", "()I"⟩
abbrev cX12_minutes : ByteArray := prog_14_method_40_code
def yX12_minutes : MethodName := ⟨RX12, "minutes", "(I)I"⟩
abbrev cX12_ferry : ByteArray := prog_14_method_41_code
def yX12_ferry : MethodName := ⟨RX12, "ferry", "(I)I"⟩
abbrev cX12_thinks : ByteArray := prog_14_method_42_code
def yX12_thinks : MethodName := ⟨RX12, "thinks", "()V"⟩
abbrev cX12_putsBack : ByteArray := prog_14_method_43_code
def yX12_putsBack : MethodName := ⟨RX12, "putsBack", "()V"⟩
abbrev cX12_overIn : ByteArray := prog_14_method_44_code
def yX12_overIn : MethodName := ⟨RX12, "overIn", "(III)I"⟩
abbrev cX12_over : ByteArray := prog_14_method_45_code
def yX12_over : MethodName := ⟨RX12, "over", "(III)I"⟩
abbrev cX12_soonest : ByteArray := prog_14_method_46_code
def yX12_soonest : MethodName := ⟨RX12, "soonest", "(III)I"⟩
abbrev cX12_settles : ByteArray := prog_14_method_47_code
def yX12_settles : MethodName := ⟨RX12, "settles", "(III)I"⟩
abbrev cX12_pairsOf : ByteArray := prog_14_method_48_code
def yX12_pairsOf : MethodName := ⟨RX12, "pairsOf", "(I)I"⟩
abbrev cX12_pairs : ByteArray := prog_14_method_49_code
def yX12_pairs : MethodName := ⟨RX12, "pairs", "(I)I"⟩
abbrev cX12_behind : ByteArray := prog_14_method_50_code
def yX12_behind : MethodName := ⟨RX12, "behind", "(II)I"⟩
abbrev cX12_lands : ByteArray := prog_14_method_51_code
def yX12_lands : MethodName := ⟨RX12, "lands", "(I)I"⟩
abbrev cX12_crossedBy : ByteArray := prog_14_method_52_code
def yX12_crossedBy : MethodName := ⟨RX12, "crossedBy", "(I)I"⟩
abbrev cX12_calm : ByteArray := prog_14_method_53_code
def yX12_calm : MethodName := ⟨RX12, "calm", "(II)I"⟩
abbrev cX12_becomes : ByteArray := prog_14_method_54_code
def yX12_becomes : MethodName := ⟨RX12, "becomes", "(III)I"⟩
abbrev cX12_like : ByteArray := prog_14_method_55_code
def yX12_like : MethodName := ⟨RX12, "like", "(II)I"⟩
abbrev cX12_fee : ByteArray := prog_14_method_56_code
def yX12_fee : MethodName := ⟨RX12, "fee", "()I"⟩
abbrev cX12_fine : ByteArray := prog_14_method_57_code
def yX12_fine : MethodName := ⟨RX12, "fine", "(I)I"⟩
abbrev cX12_feed : ByteArray := prog_14_method_58_code
def yX12_feed : MethodName := ⟨RX12, "feed", "(III)I"⟩
abbrev cX12_trim : ByteArray := prog_14_method_59_code
def yX12_trim : MethodName := ⟨RX12, "trim", "(I)I"⟩
abbrev cX12_isLetter : ByteArray := prog_14_method_60_code
def yX12_isLetter : MethodName := ⟨RX12, "isLetter", "(I)Z"⟩
abbrev cX12_isFigure : ByteArray := prog_14_method_61_code
def yX12_isFigure : MethodName := ⟨RX12, "isFigure", "(I)Z"⟩
abbrev cX12_go : ByteArray := prog_14_method_62_code
def yX12_go : MethodName := ⟨RX12, "go", "()V"⟩
abbrev cX12_takesKey : ByteArray := prog_14_method_63_code
def yX12_takesKey : MethodName := ⟨RX12, "takesKey", "()Z"⟩
abbrev cX12_nameOf : ByteArray := prog_14_method_64_code
def yX12_nameOf : MethodName := ⟨RX12, "nameOf", "(I)I"⟩
abbrev cX12_rank : ByteArray := prog_14_method_65_code
def yX12_rank : MethodName := ⟨RX12, "rank", "(I)I"⟩
abbrev cX12_settle : ByteArray := prog_14_method_66_code
def yX12_settle : MethodName := ⟨RX12, "settle", "(I)V"⟩
abbrev cX12_signHere : ByteArray := prog_14_method_67_code
def yX12_signHere : MethodName := ⟨RX12, "signHere", "()I"⟩
abbrev cX12_takesPart : ByteArray := prog_14_method_68_code
def yX12_takesPart : MethodName := ⟨RX12, "takesPart", "()Z"⟩
abbrev cX12_takesE : ByteArray := prog_14_method_69_code
def yX12_takesE : MethodName := ⟨RX12, "takesE", "()Z"⟩
abbrev cX12_notsOpen : ByteArray := prog_14_method_70_code
def yX12_notsOpen : MethodName := ⟨RX12, "notsOpen", "()I"⟩
abbrev cX12_text : ByteArray := prog_14_method_71_code
def yX12_text : MethodName := ⟨RX12, "text", "()I"⟩
abbrev cX12_textTold : ByteArray := prog_14_method_72_code
def yX12_textTold : MethodName := ⟨RX12, "textTold", "(II)I"⟩
abbrev cX12_counts : ByteArray := prog_14_method_73_code
def yX12_counts : MethodName := ⟨RX12, "counts", "(I)I"⟩
abbrev cX12_why : ByteArray := prog_14_method_74_code
def yX12_why : MethodName := ⟨RX12, "why", "(I)I"⟩
abbrev cX12_two : ByteArray := prog_14_method_75_code
def yX12_two : MethodName := ⟨RX12, "two", "(III)I"⟩
abbrev cX12_worksOut : ByteArray := prog_14_method_76_code
def yX12_worksOut : MethodName := ⟨RX12, "worksOut", "(I)I"⟩
abbrev cX12_isSheet : ByteArray := prog_14_method_77_code
def yX12_isSheet : MethodName := ⟨RX12, "isSheet", "(I)Z"⟩
abbrev cX12_isSlot : ByteArray := prog_14_method_78_code
def yX12_isSlot : MethodName := ⟨RX12, "isSlot", "(I)Z"⟩
abbrev cX12_sheet : ByteArray := prog_14_method_79_code
def yX12_sheet : MethodName := ⟨RX12, "sheet", "(III)I"⟩
abbrev cX12_mark : ByteArray := prog_14_method_80_code
def yX12_mark : MethodName := ⟨RX12, "mark", "(III)I"⟩
abbrev cX12_pour : ByteArray := prog_14_method_81_code
def yX12_pour : MethodName := ⟨RX12, "pour", "(I)I"⟩
abbrev cX12_reads : ByteArray := prog_14_method_82_code
def yX12_reads : MethodName := ⟨RX12, "reads", "(I)I"⟩
abbrev cX12_copy : ByteArray := prog_14_method_83_code
def yX12_copy : MethodName := ⟨RX12, "copy", "(IIIII)I"⟩
abbrev cX12_lay : ByteArray := prog_14_method_84_code
def yX12_lay : MethodName := ⟨RX12, "lay", "(III)I"⟩
abbrev cX12_ask : ByteArray := prog_14_method_85_code
def yX12_ask : MethodName := ⟨RX12, "ask", "(II)I"⟩
abbrev cX12_item : ByteArray := prog_14_method_86_code
def yX12_item : MethodName := ⟨RX12, "item", "(II)I"⟩
abbrev cX12_rest : ByteArray := prog_14_method_87_code
def yX12_rest : MethodName := ⟨RX12, "rest", "(II)I"⟩
abbrev cX12_tell : ByteArray := prog_14_method_88_code
def yX12_tell : MethodName := ⟨RX12, "tell", "(I)I"⟩
abbrev cX12_check : ByteArray := prog_14_method_89_code
def yX12_check : MethodName := ⟨RX12, "check", "(I)I"⟩
abbrev cX12_keep : ByteArray := prog_14_method_90_code
def yX12_keep : MethodName := ⟨RX12, "keep", "()I"⟩
abbrev cX12_back : ByteArray := prog_14_method_91_code
def yX12_back : MethodName := ⟨RX12, "back", "()I"⟩
abbrev cX12_count : ByteArray := prog_14_method_92_code
def yX12_count : MethodName := ⟨RX12, "count", "(I)I"⟩
def RJx145de : String := "java/io/Serializable"
def TJx145de : u_T := fun k => match k with
  | _ => ("", "", "", false)
def tyJx145de : Nat → FieldType := fun k => match k with
  | _ => .int
theorem nmJx145de : ∀ a, a < 0 → ∀ b, b < 0 → a ≠ b → (TJx145de a).2.1 ≠ (TJx145de b).2.1 := by decide +kernel
theorem tyJx145de_ok : ∀ k, k < 0 → parseFieldDescriptor (TJx145de k).2.2.1 = some (tyJx145de k) := by decide +kernel
def RJx9f9b0 : String := "java/lang/CharSequence"
def TJx9f9b0 : u_T := fun k => match k with
  | _ => ("", "", "", false)
def tyJx9f9b0 : Nat → FieldType := fun k => match k with
  | _ => .int
theorem nmJx9f9b0 : ∀ a, a < 0 → ∀ b, b < 0 → a ≠ b → (TJx9f9b0 a).2.1 ≠ (TJx9f9b0 b).2.1 := by decide +kernel
theorem tyJx9f9b0_ok : ∀ k, k < 0 → parseFieldDescriptor (TJx9f9b0 k).2.2.1 = some (tyJx9f9b0 k) := by decide +kernel
def RJ11 : String := "java/lang/Character"
def TJ11 : u_T := fun k => match k with
  | _ => ("", "", "", false)
def tyJ11 : Nat → FieldType := fun k => match k with
  | _ => .int
abbrev wsJ110 : List Cond := u_ws RJ11 TJ11 0
theorem nmJ11 : ∀ a, a < 0 → ∀ b, b < 0 → a ≠ b → (TJ11 a).2.1 ≠ (TJ11 b).2.1 := by decide +kernel
theorem tyJ11_ok : ∀ k, k < 0 → parseFieldDescriptor (TJ11 k).2.2.1 = some (tyJ11 k) := by decide +kernel
abbrev cJ11_isValidCodePoint_9a6ad : ByteArray := prog_15_method_11_code
def yJ11_isValidCodePoint_9a6ad : MethodName := ⟨RJ11, "isValidCodePoint", "(I)Z"⟩
abbrev cJ11_highSurrogate_5068e : ByteArray := prog_15_method_28_code
def yJ11_highSurrogate_5068e : MethodName := ⟨RJ11, "highSurrogate", "(I)C"⟩
abbrev cJ11_lowSurrogate_5068e : ByteArray := prog_15_method_29_code
def yJ11_lowSurrogate_5068e : MethodName := ⟨RJ11, "lowSurrogate", "(I)C"⟩
def RJxb160c : String := "java/lang/Comparable"
def TJxb160c : u_T := fun k => match k with
  | _ => ("", "", "", false)
def tyJxb160c : Nat → FieldType := fun k => match k with
  | _ => .int
theorem nmJxb160c : ∀ a, a < 0 → ∀ b, b < 0 → a ≠ b → (TJxb160c a).2.1 ≠ (TJxb160c b).2.1 := by decide +kernel
theorem tyJxb160c_ok : ∀ k, k < 0 → parseFieldDescriptor (TJxb160c k).2.2.1 = some (tyJxb160c k) := by decide +kernel
def RJ6 : String := "java/lang/Integer"
def TJ6 : u_T := fun k => match k with
  | _ => ("", "", "", false)
def tyJ6 : Nat → FieldType := fun k => match k with
  | _ => .int
abbrev wsJ60 : List Cond := u_ws RJ6 TJ6 0
theorem nmJ6 : ∀ a, a < 0 → ∀ b, b < 0 → a ≠ b → (TJ6 a).2.1 ≠ (TJ6 b).2.1 := by decide +kernel
theorem tyJ6_ok : ∀ k, k < 0 → parseFieldDescriptor (TJ6 k).2.2.1 = some (tyJ6 k) := by decide +kernel
abbrev cJ6_numberOfTrailingZeros_0f7a4 : ByteArray := prog_16_method_48_code
def yJ6_numberOfTrailingZeros_0f7a4 : MethodName := ⟨RJ6, "numberOfTrailingZeros", "(I)I"⟩
def RJ9 : String := "java/lang/Math"
def TJ9 : u_T := fun k => match k with
  | _ => ("", "", "", false)
def tyJ9 : Nat → FieldType := fun k => match k with
  | _ => .int
abbrev wsJ90 : List Cond := u_ws RJ9 TJ9 0
theorem nmJ9 : ∀ a, a < 0 → ∀ b, b < 0 → a ≠ b → (TJ9 a).2.1 ≠ (TJ9 b).2.1 := by decide +kernel
theorem tyJ9_ok : ∀ k, k < 0 → parseFieldDescriptor (TJ9 k).2.2.1 = some (tyJ9 k) := by decide +kernel
abbrev cJ9_abs_0f7a4 : ByteArray := prog_17_method_59_code
def yJ9_abs_0f7a4 : MethodName := ⟨RJ9, "abs", "(I)I"⟩
abbrev cJ9_max_7cf53 : ByteArray := prog_17_method_65_code
def yJ9_max_7cf53 : MethodName := ⟨RJ9, "max", "(II)I"⟩
abbrev cJ9_min_7cf53 : ByteArray := prog_17_method_69_code
def yJ9_min_7cf53 : MethodName := ⟨RJ9, "min", "(II)I"⟩
def RJ0 : String := "java/lang/String"
def TJ0 : u_T := fun k => match k with
  | _ => ("", "", "", false)
def tyJ0 : Nat → FieldType := fun k => match k with
  | _ => .int
abbrev wsJ00 : List Cond := u_ws RJ0 TJ0 0
theorem nmJ0 : ∀ a, a < 0 → ∀ b, b < 0 → a ≠ b → (TJ0 a).2.1 ≠ (TJ0 b).2.1 := by decide +kernel
theorem tyJ0_ok : ∀ k, k < 0 → parseFieldDescriptor (TJ0 k).2.2.1 = some (tyJ0 k) := by decide +kernel
abbrev cJ0_length_8abf5 : ByteArray := prog_18_method_54_code
def yJ0_length_8abf5 : MethodName := ⟨RJ0, "length", "()I"⟩
abbrev cJ0_charAt_5068e : ByteArray := prog_18_method_56_code
def yJ0_charAt_5068e : MethodName := ⟨RJ0, "charAt", "(I)C"⟩
abbrev cJ0_indexOf_0f7a4 : ByteArray := prog_18_method_79_code
def yJ0_indexOf_0f7a4 : MethodName := ⟨RJ0, "indexOf", "(I)I"⟩
abbrev cJ0_indexOf_7cf53 : ByteArray := prog_18_method_80_code
def yJ0_indexOf_7cf53 : MethodName := ⟨RJ0, "indexOf", "(II)I"⟩
abbrev cJ0_coder_7d493 : ByteArray := prog_18_method_152_code
def yJ0_coder_7d493 : MethodName := ⟨RJ0, "coder", "()B"⟩
abbrev cJ0_isLatin1_aae02 : ByteArray := prog_18_method_154_code
def yJ0_isLatin1_aae02 : MethodName := ⟨RJ0, "isLatin1", "()Z"⟩
abbrev cJ0_checkIndex_df160 : ByteArray := prog_18_method_155_code
def yJ0_checkIndex_df160 : MethodName := ⟨RJ0, "checkIndex", "(II)V"⟩
abbrev cJ0_checkBoundsBeginEnd_23922 : ByteArray := prog_18_method_158_code
def yJ0_checkBoundsBeginEnd_23922 : MethodName := ⟨RJ0, "checkBoundsBeginEnd", "(III)V"⟩
def RJ1 : String := "java/lang/StringLatin1"
def TJ1 : u_T := fun k => match k with
  | _ => ("", "", "", false)
def tyJ1 : Nat → FieldType := fun k => match k with
  | _ => .int
abbrev wsJ10 : List Cond := u_ws RJ1 TJ1 0
theorem nmJ1 : ∀ a, a < 0 → ∀ b, b < 0 → a ≠ b → (TJ1 a).2.1 ≠ (TJ1 b).2.1 := by decide +kernel
theorem tyJ1_ok : ∀ k, k < 0 → parseFieldDescriptor (TJ1 k).2.2.1 = some (tyJ1 k) := by decide +kernel
abbrev cJ1_charAt_3b067 : ByteArray := prog_19_method_2_code
def yJ1_charAt_3b067 : MethodName := ⟨RJ1, "charAt", "([BI)C"⟩
abbrev cJ1_canEncode_9a6ad : ByteArray := prog_19_method_4_code
def yJ1_canEncode_9a6ad : MethodName := ⟨RJ1, "canEncode", "(I)Z"⟩
abbrev cJ1_indexOf_4cfef : ByteArray := prog_19_method_22_code
def yJ1_indexOf_4cfef : MethodName := ⟨RJ1, "indexOf", "([BIII)I"⟩
abbrev cJ1_indexOfChar_4cfef : ByteArray := prog_19_method_23_code
def yJ1_indexOfChar_4cfef : MethodName := ⟨RJ1, "indexOfChar", "([BIII)I"⟩
def RJ2 : String := "java/lang/StringUTF16"
def TJ2 : u_T := fun k => match k with
  | _ => ("", "", "", false)
def tyJ2 : Nat → FieldType := fun k => match k with
  | _ => .int
abbrev wsJ20 : List Cond := u_ws RJ2 TJ2 0
theorem nmJ2 : ∀ a, a < 0 → ∀ b, b < 0 → a ≠ b → (TJ2 a).2.1 ≠ (TJ2 b).2.1 := by decide +kernel
theorem tyJ2_ok : ∀ k, k < 0 → parseFieldDescriptor (TJ2 k).2.2.1 = some (tyJ2 k) := by decide +kernel
abbrev cJ2_getChar_3b067 : ByteArray := prog_20_method_5_code
def yJ2_getChar_3b067 : MethodName := ⟨RJ2, "getChar", "([BI)C"⟩
abbrev cJ2_length_9d52b : ByteArray := prog_20_method_6_code
def yJ2_length_9d52b : MethodName := ⟨RJ2, "length", "([B)I"⟩
abbrev cJ2_indexOf_4cfef : ByteArray := prog_20_method_40_code
def yJ2_indexOf_4cfef : MethodName := ⟨RJ2, "indexOf", "([BIII)I"⟩
abbrev cJ2_indexOfChar_4cfef : ByteArray := prog_20_method_47_code
def yJ2_indexOfChar_4cfef : MethodName := ⟨RJ2, "indexOfChar", "([BIII)I"⟩
abbrev cJ2_indexOfCharUnsafe_4cfef : ByteArray := prog_20_method_48_code
def yJ2_indexOfCharUnsafe_4cfef : MethodName := ⟨RJ2, "indexOfCharUnsafe", "([BIII)I"⟩
abbrev cJ2_indexOfSupplementary_4cfef : ByteArray := prog_20_method_49_code
def yJ2_indexOfSupplementary_4cfef : MethodName := ⟨RJ2, "indexOfSupplementary", "([BIII)I"⟩
abbrev cJ2_charAt_3b067 : ByteArray := prog_20_method_83_code
def yJ2_charAt_3b067 : MethodName := ⟨RJ2, "charAt", "([BI)C"⟩
abbrev cJ2_checkIndex_2214a : ByteArray := prog_20_method_91_code
def yJ2_checkIndex_2214a : MethodName := ⟨RJ2, "checkIndex", "(I[B)V"⟩
abbrev cJ2_checkBoundsBeginEnd_d044e : ByteArray := prog_20_method_93_code
def yJ2_checkBoundsBeginEnd_d044e : MethodName := ⟨RJ2, "checkBoundsBeginEnd", "(II[B)V"⟩
def RJ10 : String := "java/lang/System"
def TJ10 : u_T := fun k => match k with
  | _ => ("", "", "", false)
def tyJ10 : Nat → FieldType := fun k => match k with
  | _ => .int
abbrev wsJ100 : List Cond := u_ws RJ10 TJ10 0
theorem nmJ10 : ∀ a, a < 0 → ∀ b, b < 0 → a ≠ b → (TJ10 a).2.1 ≠ (TJ10 b).2.1 := by decide +kernel
theorem tyJ10_ok : ∀ k, k < 0 → parseFieldDescriptor (TJ10 k).2.2.1 = some (tyJ10 k) := by decide +kernel
def RJxfd54e : String := "java/lang/constant/Constable"
def TJxfd54e : u_T := fun k => match k with
  | _ => ("", "", "", false)
def tyJxfd54e : Nat → FieldType := fun k => match k with
  | _ => .int
theorem nmJxfd54e : ∀ a, a < 0 → ∀ b, b < 0 → a ≠ b → (TJxfd54e a).2.1 ≠ (TJxfd54e b).2.1 := by decide +kernel
theorem tyJxfd54e_ok : ∀ k, k < 0 → parseFieldDescriptor (TJxfd54e k).2.2.1 = some (tyJxfd54e k) := by decide +kernel
def RJx3cf43 : String := "java/lang/constant/ConstantDesc"
def TJx3cf43 : u_T := fun k => match k with
  | _ => ("", "", "", false)
def tyJx3cf43 : Nat → FieldType := fun k => match k with
  | _ => .int
theorem nmJx3cf43 : ∀ a, a < 0 → ∀ b, b < 0 → a ≠ b → (TJx3cf43 a).2.1 ≠ (TJx3cf43 b).2.1 := by decide +kernel
theorem tyJx3cf43_ok : ∀ k, k < 0 → parseFieldDescriptor (TJx3cf43 k).2.2.1 = some (tyJx3cf43 k) := by decide +kernel
def RJ7 : String := "java/util/Arrays"
def TJ7 : u_T := fun k => match k with
  | _ => ("", "", "", false)
def tyJ7 : Nat → FieldType := fun k => match k with
  | _ => .int
abbrev wsJ70 : List Cond := u_ws RJ7 TJ7 0
theorem nmJ7 : ∀ a, a < 0 → ∀ b, b < 0 → a ≠ b → (TJ7 a).2.1 ≠ (TJ7 b).2.1 := by decide +kernel
theorem tyJ7_ok : ∀ k, k < 0 → parseFieldDescriptor (TJ7 k).2.2.1 = some (tyJ7 k) := by decide +kernel
abbrev cJ7_fill_53178 : ByteArray := prog_22_method_103_code
def yJ7_fill_53178 : MethodName := ⟨RJ7, "fill", "([II)V"⟩
def RJ3 : String := "jdk/internal/util/Preconditions"
def TJ3 : u_T := fun k => match k with
  | _ => ("", "", "", false)
def tyJ3 : Nat → FieldType := fun k => match k with
  | _ => .int
abbrev wsJ30 : List Cond := u_ws RJ3 TJ3 0
theorem nmJ3 : ∀ a, a < 0 → ∀ b, b < 0 → a ≠ b → (TJ3 a).2.1 ≠ (TJ3 b).2.1 := by decide +kernel
theorem tyJ3_ok : ∀ k, k < 0 → parseFieldDescriptor (TJ3 k).2.2.1 = some (tyJ3 k) := by decide +kernel
abbrev cJ3_checkIndex_8e157 : ByteArray := prog_23_method_11_code
def yJ3_checkIndex_8e157 : MethodName := ⟨RJ3, "checkIndex", "(IILjava/util/function/BiFunction;)I"⟩
abbrev cJ3_checkFromToIndex_8c36e : ByteArray := prog_23_method_12_code
def yJ3_checkFromToIndex_8c36e : MethodName := ⟨RJ3, "checkFromToIndex", "(IIILjava/util/function/BiFunction;)I"⟩
def RL : String := "ArguedFerryLaw"
abbrev cL_law : ByteArray := code
def yL_law : MethodName := ⟨RL, "law", "([I)Z"⟩
abbrev vwCl : List vw_C := [(RX0, TX0, 0), (RX1, TX1, 0), (RX2, TX2, 0), (RX3, TX3, 0), (RX4, TX4, 4), (RX5, TX5, 3), (RX6, TX6, 0), (RX7, TX7, 6), (RX8, TX8, 6), (RX9, TX9, 0), (RX10, TX10, 14), (RX11, TX11, 17), (RX12, TX12, 35)]
