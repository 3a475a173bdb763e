section
-- ===== PART A: goes FIRST, ahead of the names: the tables' words, and 'selects' of the private methods out of them =====
/-- a private method of a class that the tables say can be made, by its rows of tables_1 -/
def lw_okq (q : MethodName × Nat) : Prop := (q.1.cls ≠ "java/lang/invoke/MethodHandle" ∧ q.1.cls ≠ "java/lang/invoke/VarHandle") ∧ Cond.instantiable q.1.cls q.2 ∈ tables_1 ∧ Cond.privateMethod q.1 ∈ tables_1 ∧ Cond.instanceMethod q.1 ∈ tables_1
theorem lw_p0 : lw_okq (⟨"ArguedFerry", "isOne", "(I)Z"⟩, 17) := ⟨⟨by decide +kernel, by decide +kernel⟩, List.mem_of_getElem? (i := 24) (by decide +kernel), List.mem_of_getElem? (i := 325) (by decide +kernel), List.mem_of_getElem? (i := 326) (by decide +kernel)⟩
theorem lw_p1 : lw_okq (⟨"ArguedFerry", "areTwo", "(II)Z"⟩, 17) := ⟨⟨by decide +kernel, by decide +kernel⟩, List.mem_of_getElem? (i := 24) (by decide +kernel), List.mem_of_getElem? (i := 450) (by decide +kernel), List.mem_of_getElem? (i := 451) (by decide +kernel)⟩
theorem lw_p2 : lw_okq (⟨"ArguedFerry$World", "argueOn", "()V"⟩, 14) := ⟨⟨by decide +kernel, by decide +kernel⟩, List.mem_of_getElem? (i := 109) (by decide +kernel), List.mem_of_getElem? (i := 545) (by decide +kernel), List.mem_of_getElem? (i := 546) (by decide +kernel)⟩
theorem lw_p3 : lw_okq (⟨"ArguedFerry$World", "goAshore", "()V"⟩, 14) := ⟨⟨by decide +kernel, by decide +kernel⟩, List.mem_of_getElem? (i := 109) (by decide +kernel), List.mem_of_getElem? (i := 557) (by decide +kernel), List.mem_of_getElem? (i := 558) (by decide +kernel)⟩
theorem lw_p4 : lw_okq (⟨"ArguedFerry$World", "shiftViews", "(LArguedFerry$Passenger;LArguedFerry$Passenger;)V"⟩, 14) := ⟨⟨by decide +kernel, by decide +kernel⟩, List.mem_of_getElem? (i := 109) (by decide +kernel), List.mem_of_getElem? (i := 561) (by decide +kernel), List.mem_of_getElem? (i := 562) (by decide +kernel)⟩
theorem lw_p5 : lw_okq (⟨"ArguedFerry$World", "setOff", "()V"⟩, 14) := ⟨⟨by decide +kernel, by decide +kernel⟩, List.mem_of_getElem? (i := 109) (by decide +kernel), List.mem_of_getElem? (i := 567) (by decide +kernel), List.mem_of_getElem? (i := 568) (by decide +kernel)⟩
theorem lw_p6 : lw_okq (⟨"ArguedFerry$World", "nextAshore", "(I)I"⟩, 14) := ⟨⟨by decide +kernel, by decide +kernel⟩, List.mem_of_getElem? (i := 109) (by decide +kernel), List.mem_of_getElem? (i := 571) (by decide +kernel), List.mem_of_getElem? (i := 572) (by decide +kernel)⟩
theorem lw_p7 : lw_okq (⟨"ArguedFerry$World", "thoseOver", "()I"⟩, 14) := ⟨⟨by decide +kernel, by decide +kernel⟩, List.mem_of_getElem? (i := 109) (by decide +kernel), List.mem_of_getElem? (i := 592) (by decide +kernel), List.mem_of_getElem? (i := 593) (by decide +kernel)⟩
theorem lw_p8 : lw_okq (⟨"ArguedFerry", "minutesOver", "(III)I"⟩, 17) := ⟨⟨by decide +kernel, by decide +kernel⟩, List.mem_of_getElem? (i := 24) (by decide +kernel), List.mem_of_getElem? (i := 600) (by decide +kernel), List.mem_of_getElem? (i := 601) (by decide +kernel)⟩
theorem lw_p9 : lw_okq (⟨"ArguedFerry", "findPartners", "(I)V"⟩, 17) := ⟨⟨by decide +kernel, by decide +kernel⟩, List.mem_of_getElem? (i := 24) (by decide +kernel), List.mem_of_getElem? (i := 625) (by decide +kernel), List.mem_of_getElem? (i := 626) (by decide +kernel)⟩
theorem lw_p10 : lw_okq (⟨"ArguedFerry", "pairsOf", "(I)I"⟩, 17) := ⟨⟨by decide +kernel, by decide +kernel⟩, List.mem_of_getElem? (i := 24) (by decide +kernel), List.mem_of_getElem? (i := 630) (by decide +kernel), List.mem_of_getElem? (i := 631) (by decide +kernel)⟩
theorem lw_p11 : lw_okq (⟨"ArguedFerry", "sumDifferences", "(LArguedFerry$Row;)V"⟩, 17) := ⟨⟨by decide +kernel, by decide +kernel⟩, List.mem_of_getElem? (i := 24) (by decide +kernel), List.mem_of_getElem? (i := 671) (by decide +kernel), List.mem_of_getElem? (i := 672) (by decide +kernel)⟩
theorem lw_p12 : lw_okq (⟨"ArguedFerry$Tape", "goOn", "()V"⟩, 6) := ⟨⟨by decide +kernel, by decide +kernel⟩, List.mem_of_getElem? (i := 36) (by decide +kernel), List.mem_of_getElem? (i := 710) (by decide +kernel), List.mem_of_getElem? (i := 711) (by decide +kernel)⟩
theorem lw_p13 : lw_okq (⟨"ArguedFerry$Tape", "keyHere", "()I"⟩, 6) := ⟨⟨by decide +kernel, by decide +kernel⟩, List.mem_of_getElem? (i := 36) (by decide +kernel), List.mem_of_getElem? (i := 720) (by decide +kernel), List.mem_of_getElem? (i := 721) (by decide +kernel)⟩
theorem lw_p14 : lw_okq (⟨"ArguedFerry$Tape", "isWordHere", "(Ljava/lang/String;)Z"⟩, 6) := ⟨⟨by decide +kernel, by decide +kernel⟩, List.mem_of_getElem? (i := 36) (by decide +kernel), List.mem_of_getElem? (i := 727) (by decide +kernel), List.mem_of_getElem? (i := 728) (by decide +kernel)⟩
theorem lw_p15 : lw_okq (⟨"ArguedFerry$Tape", "takeOr", "(II)Z"⟩, 6) := ⟨⟨by decide +kernel, by decide +kernel⟩, List.mem_of_getElem? (i := 36) (by decide +kernel), List.mem_of_getElem? (i := 783) (by decide +kernel), List.mem_of_getElem? (i := 784) (by decide +kernel)⟩
def lw_privs_1 : List (MethodName × Nat) := [(⟨"ArguedFerry", "isOne", "(I)Z"⟩, 17), (⟨"ArguedFerry", "areTwo", "(II)Z"⟩, 17), (⟨"ArguedFerry$World", "argueOn", "()V"⟩, 14), (⟨"ArguedFerry$World", "goAshore", "()V"⟩, 14), (⟨"ArguedFerry$World", "shiftViews", "(LArguedFerry$Passenger;LArguedFerry$Passenger;)V"⟩, 14), (⟨"ArguedFerry$World", "setOff", "()V"⟩, 14), (⟨"ArguedFerry$World", "nextAshore", "(I)I"⟩, 14), (⟨"ArguedFerry$World", "thoseOver", "()I"⟩, 14), (⟨"ArguedFerry", "minutesOver", "(III)I"⟩, 17), (⟨"ArguedFerry", "findPartners", "(I)V"⟩, 17), (⟨"ArguedFerry", "pairsOf", "(I)I"⟩, 17), (⟨"ArguedFerry", "sumDifferences", "(LArguedFerry$Row;)V"⟩, 17), (⟨"ArguedFerry$Tape", "goOn", "()V"⟩, 6), (⟨"ArguedFerry$Tape", "keyHere", "()I"⟩, 6), (⟨"ArguedFerry$Tape", "isWordHere", "(Ljava/lang/String;)Z"⟩, 6), (⟨"ArguedFerry$Tape", "takeOr", "(II)Z"⟩, 6)]
theorem lw_r1 : ∀ q ∈ lw_privs_1, lw_okq q := List.forall_mem_cons.mpr ⟨lw_p0, List.forall_mem_cons.mpr ⟨lw_p1, List.forall_mem_cons.mpr ⟨lw_p2, List.forall_mem_cons.mpr ⟨lw_p3, List.forall_mem_cons.mpr ⟨lw_p4, List.forall_mem_cons.mpr ⟨lw_p5, List.forall_mem_cons.mpr ⟨lw_p6, List.forall_mem_cons.mpr ⟨lw_p7, List.forall_mem_cons.mpr ⟨lw_p8, List.forall_mem_cons.mpr ⟨lw_p9, List.forall_mem_cons.mpr ⟨lw_p10, List.forall_mem_cons.mpr ⟨lw_p11, List.forall_mem_cons.mpr ⟨lw_p12, List.forall_mem_cons.mpr ⟨lw_p13, List.forall_mem_cons.mpr ⟨lw_p14, List.forall_mem_cons.mpr ⟨lw_p15, fun _ h => absurd h List.not_mem_nil⟩⟩⟩⟩⟩⟩⟩⟩⟩⟩⟩⟩⟩⟩⟩⟩
theorem lw_p16 : lw_okq (⟨"ArguedFerry$Tape", "takeAnd", "(II)Z"⟩, 6) := ⟨⟨by decide +kernel, by decide +kernel⟩, List.mem_of_getElem? (i := 36) (by decide +kernel), List.mem_of_getElem? (i := 787) (by decide +kernel), List.mem_of_getElem? (i := 788) (by decide +kernel)⟩
theorem lw_p17 : lw_okq (⟨"ArguedFerry$Tape", "takeTest", "(II)Z"⟩, 6) := ⟨⟨by decide +kernel, by decide +kernel⟩, List.mem_of_getElem? (i := 36) (by decide +kernel), List.mem_of_getElem? (i := 791) (by decide +kernel), List.mem_of_getElem? (i := 792) (by decide +kernel)⟩
theorem lw_p18 : lw_okq (⟨"ArguedFerry$Tape", "takeSum", "(II)Z"⟩, 6) := ⟨⟨by decide +kernel, by decide +kernel⟩, List.mem_of_getElem? (i := 36) (by decide +kernel), List.mem_of_getElem? (i := 795) (by decide +kernel), List.mem_of_getElem? (i := 796) (by decide +kernel)⟩
theorem lw_p19 : lw_okq (⟨"ArguedFerry$Tape", "takeTerm", "(II)Z"⟩, 6) := ⟨⟨by decide +kernel, by decide +kernel⟩, List.mem_of_getElem? (i := 36) (by decide +kernel), List.mem_of_getElem? (i := 799) (by decide +kernel), List.mem_of_getElem? (i := 800) (by decide +kernel)⟩
theorem lw_p20 : lw_okq (⟨"ArguedFerry$Tape", "takePiece", "(II)Z"⟩, 6) := ⟨⟨by decide +kernel, by decide +kernel⟩, List.mem_of_getElem? (i := 36) (by decide +kernel), List.mem_of_getElem? (i := 803) (by decide +kernel), List.mem_of_getElem? (i := 804) (by decide +kernel)⟩
theorem lw_p21 : lw_okq (⟨"ArguedFerry$Tape", "takeNumber", "()Z"⟩, 6) := ⟨⟨by decide +kernel, by decide +kernel⟩, List.mem_of_getElem? (i := 36) (by decide +kernel), List.mem_of_getElem? (i := 807) (by decide +kernel), List.mem_of_getElem? (i := 808) (by decide +kernel)⟩
theorem lw_p22 : lw_okq (⟨"ArguedFerry$Text", "addCode", "(I)V"⟩, 6) := ⟨⟨by decide +kernel, by decide +kernel⟩, List.mem_of_getElem? (i := 199) (by decide +kernel), List.mem_of_getElem? (i := 815) (by decide +kernel), List.mem_of_getElem? (i := 816) (by decide +kernel)⟩
theorem lw_p23 : lw_okq (⟨"ArguedFerry$Tape", "takeName", "()Z"⟩, 6) := ⟨⟨by decide +kernel, by decide +kernel⟩, List.mem_of_getElem? (i := 36) (by decide +kernel), List.mem_of_getElem? (i := 819) (by decide +kernel), List.mem_of_getElem? (i := 820) (by decide +kernel)⟩
theorem lw_p24 : lw_okq (⟨"ArguedFerry$Tape", "takeNot", "(II)Z"⟩, 6) := ⟨⟨by decide +kernel, by decide +kernel⟩, List.mem_of_getElem? (i := 36) (by decide +kernel), List.mem_of_getElem? (i := 885) (by decide +kernel), List.mem_of_getElem? (i := 886) (by decide +kernel)⟩
theorem lw_p25 : lw_okq (⟨"ArguedFerry$Tape", "takeBracket", "(II)Z"⟩, 6) := ⟨⟨by decide +kernel, by decide +kernel⟩, List.mem_of_getElem? (i := 36) (by decide +kernel), List.mem_of_getElem? (i := 893) (by decide +kernel), List.mem_of_getElem? (i := 894) (by decide +kernel)⟩
theorem lw_p26 : lw_okq (⟨"ArguedFerry", "waitsAt", "(III)Z"⟩, 17) := ⟨⟨by decide +kernel, by decide +kernel⟩, List.mem_of_getElem? (i := 24) (by decide +kernel), List.mem_of_getElem? (i := 978) (by decide +kernel), List.mem_of_getElem? (i := 979) (by decide +kernel)⟩
theorem lw_p27 : lw_okq (⟨"ArguedFerryModel", "comes", "(II)I"⟩, 35) := ⟨⟨by decide +kernel, by decide +kernel⟩, List.mem_of_getElem? (i := 994) (by decide +kernel), List.mem_of_getElem? (i := 1117) (by decide +kernel), List.mem_of_getElem? (i := 1118) (by decide +kernel)⟩
theorem lw_p28 : lw_okq (⟨"ArguedFerryModel", "put", "(III)V"⟩, 35) := ⟨⟨by decide +kernel, by decide +kernel⟩, List.mem_of_getElem? (i := 994) (by decide +kernel), List.mem_of_getElem? (i := 1121) (by decide +kernel), List.mem_of_getElem? (i := 1122) (by decide +kernel)⟩
theorem lw_p29 : lw_okq (⟨"ArguedFerryModel", "isOne", "(I)Z"⟩, 35) := ⟨⟨by decide +kernel, by decide +kernel⟩, List.mem_of_getElem? (i := 994) (by decide +kernel), List.mem_of_getElem? (i := 1129) (by decide +kernel), List.mem_of_getElem? (i := 1130) (by decide +kernel)⟩
theorem lw_p30 : lw_okq (⟨"ArguedFerryModel", "of", "(II)I"⟩, 35) := ⟨⟨by decide +kernel, by decide +kernel⟩, List.mem_of_getElem? (i := 994) (by decide +kernel), List.mem_of_getElem? (i := 1133) (by decide +kernel), List.mem_of_getElem? (i := 1134) (by decide +kernel)⟩
theorem lw_p31 : lw_okq (⟨"ArguedFerryModel", "worthOf", "(I)I"⟩, 35) := ⟨⟨by decide +kernel, by decide +kernel⟩, List.mem_of_getElem? (i := 994) (by decide +kernel), List.mem_of_getElem? (i := 1137) (by decide +kernel), List.mem_of_getElem? (i := 1138) (by decide +kernel)⟩
def lw_privs_2 : List (MethodName × Nat) := [(⟨"ArguedFerry$Tape", "takeAnd", "(II)Z"⟩, 6), (⟨"ArguedFerry$Tape", "takeTest", "(II)Z"⟩, 6), (⟨"ArguedFerry$Tape", "takeSum", "(II)Z"⟩, 6), (⟨"ArguedFerry$Tape", "takeTerm", "(II)Z"⟩, 6), (⟨"ArguedFerry$Tape", "takePiece", "(II)Z"⟩, 6), (⟨"ArguedFerry$Tape", "takeNumber", "()Z"⟩, 6), (⟨"ArguedFerry$Text", "addCode", "(I)V"⟩, 6), (⟨"ArguedFerry$Tape", "takeName", "()Z"⟩, 6), (⟨"ArguedFerry$Tape", "takeNot", "(II)Z"⟩, 6), (⟨"ArguedFerry$Tape", "takeBracket", "(II)Z"⟩, 6), (⟨"ArguedFerry", "waitsAt", "(III)Z"⟩, 17), (⟨"ArguedFerryModel", "comes", "(II)I"⟩, 35), (⟨"ArguedFerryModel", "put", "(III)V"⟩, 35), (⟨"ArguedFerryModel", "isOne", "(I)Z"⟩, 35), (⟨"ArguedFerryModel", "of", "(II)I"⟩, 35), (⟨"ArguedFerryModel", "worthOf", "(I)I"⟩, 35)]
theorem lw_r2 : ∀ q ∈ lw_privs_2, lw_okq q := List.forall_mem_cons.mpr ⟨lw_p16, List.forall_mem_cons.mpr ⟨lw_p17, List.forall_mem_cons.mpr ⟨lw_p18, List.forall_mem_cons.mpr ⟨lw_p19, List.forall_mem_cons.mpr ⟨lw_p20, List.forall_mem_cons.mpr ⟨lw_p21, List.forall_mem_cons.mpr ⟨lw_p22, List.forall_mem_cons.mpr ⟨lw_p23, List.forall_mem_cons.mpr ⟨lw_p24, List.forall_mem_cons.mpr ⟨lw_p25, List.forall_mem_cons.mpr ⟨lw_p26, List.forall_mem_cons.mpr ⟨lw_p27, List.forall_mem_cons.mpr ⟨lw_p28, List.forall_mem_cons.mpr ⟨lw_p29, List.forall_mem_cons.mpr ⟨lw_p30, List.forall_mem_cons.mpr ⟨lw_p31, fun _ h => absurd h List.not_mem_nil⟩⟩⟩⟩⟩⟩⟩⟩⟩⟩⟩⟩⟩⟩⟩⟩
theorem lw_p32 : lw_okq (⟨"ArguedFerryModel", "swaps", "(II)I"⟩, 35) := ⟨⟨by decide +kernel, by decide +kernel⟩, List.mem_of_getElem? (i := 994) (by decide +kernel), List.mem_of_getElem? (i := 1152) (by decide +kernel), List.mem_of_getElem? (i := 1153) (by decide +kernel)⟩
theorem lw_p33 : lw_okq (⟨"ArguedFerryModel", "draw", "()I"⟩, 35) := ⟨⟨by decide +kernel, by decide +kernel⟩, List.mem_of_getElem? (i := 994) (by decide +kernel), List.mem_of_getElem? (i := 1181) (by decide +kernel), List.mem_of_getElem? (i := 1182) (by decide +kernel)⟩
theorem lw_p34 : lw_okq (⟨"ArguedFerryModel", "areTwo", "(II)Z"⟩, 35) := ⟨⟨by decide +kernel, by decide +kernel⟩, List.mem_of_getElem? (i := 994) (by decide +kernel), List.mem_of_getElem? (i := 1199) (by decide +kernel), List.mem_of_getElem? (i := 1200) (by decide +kernel)⟩
theorem lw_p35 : lw_okq (⟨"ArguedFerryModel", "apart", "(III)I"⟩, 35) := ⟨⟨by decide +kernel, by decide +kernel⟩, List.mem_of_getElem? (i := 994) (by decide +kernel), List.mem_of_getElem? (i := 1203) (by decide +kernel), List.mem_of_getElem? (i := 1204) (by decide +kernel)⟩
theorem lw_p36 : lw_okq (⟨"ArguedFerryModel", "speaks", "(III)I"⟩, 35) := ⟨⟨by decide +kernel, by decide +kernel⟩, List.mem_of_getElem? (i := 994) (by decide +kernel), List.mem_of_getElem? (i := 1207) (by decide +kernel), List.mem_of_getElem? (i := 1208) (by decide +kernel)⟩
theorem lw_p37 : lw_okq (⟨"ArguedFerryModel", "counts", "(I)I"⟩, 35) := ⟨⟨by decide +kernel, by decide +kernel⟩, List.mem_of_getElem? (i := 994) (by decide +kernel), List.mem_of_getElem? (i := 1211) (by decide +kernel), List.mem_of_getElem? (i := 1212) (by decide +kernel)⟩
theorem lw_p38 : lw_okq (⟨"ArguedFerryModel", "worksOut", "(I)I"⟩, 35) := ⟨⟨by decide +kernel, by decide +kernel⟩, List.mem_of_getElem? (i := 994) (by decide +kernel), List.mem_of_getElem? (i := 1215) (by decide +kernel), List.mem_of_getElem? (i := 1216) (by decide +kernel)⟩
theorem lw_p39 : lw_okq (⟨"ArguedFerryModel", "heats", "(III)I"⟩, 35) := ⟨⟨by decide +kernel, by decide +kernel⟩, List.mem_of_getElem? (i := 994) (by decide +kernel), List.mem_of_getElem? (i := 1225) (by decide +kernel), List.mem_of_getElem? (i := 1226) (by decide +kernel)⟩
theorem lw_p40 : lw_okq (⟨"ArguedFerryModel", "shifts", "(III)I"⟩, 35) := ⟨⟨by decide +kernel, by decide +kernel⟩, List.mem_of_getElem? (i := 994) (by decide +kernel), List.mem_of_getElem? (i := 1229) (by decide +kernel), List.mem_of_getElem? (i := 1230) (by decide +kernel)⟩
theorem lw_p41 : lw_okq (⟨"ArguedFerryModel", "goesOn", "(I)V"⟩, 35) := ⟨⟨by decide +kernel, by decide +kernel⟩, List.mem_of_getElem? (i := 994) (by decide +kernel), List.mem_of_getElem? (i := 1237) (by decide +kernel), List.mem_of_getElem? (i := 1238) (by decide +kernel)⟩
theorem lw_p42 : lw_okq (⟨"ArguedFerryModel", "minute", "()V"⟩, 35) := ⟨⟨by decide +kernel, by decide +kernel⟩, List.mem_of_getElem? (i := 994) (by decide +kernel), List.mem_of_getElem? (i := 1241) (by decide +kernel), List.mem_of_getElem? (i := 1242) (by decide +kernel)⟩
theorem lw_p43 : lw_okq (⟨"ArguedFerryModel", "waits", "()V"⟩, 35) := ⟨⟨by decide +kernel, by decide +kernel⟩, List.mem_of_getElem? (i := 994) (by decide +kernel), List.mem_of_getElem? (i := 1245) (by decide +kernel), List.mem_of_getElem? (i := 1246) (by decide +kernel)⟩
theorem lw_p44 : lw_okq (⟨"ArguedFerryModel", "nextAt", "(II)I"⟩, 35) := ⟨⟨by decide +kernel, by decide +kernel⟩, List.mem_of_getElem? (i := 994) (by decide +kernel), List.mem_of_getElem? (i := 1249) (by decide +kernel), List.mem_of_getElem? (i := 1250) (by decide +kernel)⟩
theorem lw_p45 : lw_okq (⟨"ArguedFerryModel", "goAboard", "(II)V"⟩, 35) := ⟨⟨by decide +kernel, by decide +kernel⟩, List.mem_of_getElem? (i := 994) (by decide +kernel), List.mem_of_getElem? (i := 1253) (by decide +kernel), List.mem_of_getElem? (i := 1254) (by decide +kernel)⟩
theorem lw_p46 : lw_okq (⟨"ArguedFerryModel", "quarrel", "(II)V"⟩, 35) := ⟨⟨by decide +kernel, by decide +kernel⟩, List.mem_of_getElem? (i := 994) (by decide +kernel), List.mem_of_getElem? (i := 1257) (by decide +kernel), List.mem_of_getElem? (i := 1258) (by decide +kernel)⟩
theorem lw_p47 : lw_okq (⟨"ArguedFerryModel", "comesTo", "(I)V"⟩, 35) := ⟨⟨by decide +kernel, by decide +kernel⟩, List.mem_of_getElem? (i := 994) (by decide +kernel), List.mem_of_getElem? (i := 1261) (by decide +kernel), List.mem_of_getElem? (i := 1262) (by decide +kernel)⟩
def lw_privs_3 : List (MethodName × Nat) := [(⟨"ArguedFerryModel", "swaps", "(II)I"⟩, 35), (⟨"ArguedFerryModel", "draw", "()I"⟩, 35), (⟨"ArguedFerryModel", "areTwo", "(II)Z"⟩, 35), (⟨"ArguedFerryModel", "apart", "(III)I"⟩, 35), (⟨"ArguedFerryModel", "speaks", "(III)I"⟩, 35), (⟨"ArguedFerryModel", "counts", "(I)I"⟩, 35), (⟨"ArguedFerryModel", "worksOut", "(I)I"⟩, 35), (⟨"ArguedFerryModel", "heats", "(III)I"⟩, 35), (⟨"ArguedFerryModel", "shifts", "(III)I"⟩, 35), (⟨"ArguedFerryModel", "goesOn", "(I)V"⟩, 35), (⟨"ArguedFerryModel", "minute", "()V"⟩, 35), (⟨"ArguedFerryModel", "waits", "()V"⟩, 35), (⟨"ArguedFerryModel", "nextAt", "(II)I"⟩, 35), (⟨"ArguedFerryModel", "goAboard", "(II)V"⟩, 35), (⟨"ArguedFerryModel", "quarrel", "(II)V"⟩, 35), (⟨"ArguedFerryModel", "comesTo", "(I)V"⟩, 35)]
theorem lw_r3 : ∀ q ∈ lw_privs_3, lw_okq q := List.forall_mem_cons.mpr ⟨lw_p32, List.forall_mem_cons.mpr ⟨lw_p33, List.forall_mem_cons.mpr ⟨lw_p34, List.forall_mem_cons.mpr ⟨lw_p35, List.forall_mem_cons.mpr ⟨lw_p36, List.forall_mem_cons.mpr ⟨lw_p37, List.forall_mem_cons.mpr ⟨lw_p38, List.forall_mem_cons.mpr ⟨lw_p39, List.forall_mem_cons.mpr ⟨lw_p40, List.forall_mem_cons.mpr ⟨lw_p41, List.forall_mem_cons.mpr ⟨lw_p42, List.forall_mem_cons.mpr ⟨lw_p43, List.forall_mem_cons.mpr ⟨lw_p44, List.forall_mem_cons.mpr ⟨lw_p45, List.forall_mem_cons.mpr ⟨lw_p46, List.forall_mem_cons.mpr ⟨lw_p47, fun _ h => absurd h List.not_mem_nil⟩⟩⟩⟩⟩⟩⟩⟩⟩⟩⟩⟩⟩⟩⟩⟩
theorem lw_p48 : lw_okq (⟨"ArguedFerryModel", "across", "()I"⟩, 35) := ⟨⟨by decide +kernel, by decide +kernel⟩, List.mem_of_getElem? (i := 994) (by decide +kernel), List.mem_of_getElem? (i := 1269) (by decide +kernel), List.mem_of_getElem? (i := 1270) (by decide +kernel)⟩
theorem lw_p49 : lw_okq (⟨"ArguedFerryModel", "tempers", "()I"⟩, 35) := ⟨⟨by decide +kernel, by decide +kernel⟩, List.mem_of_getElem? (i := 994) (by decide +kernel), List.mem_of_getElem? (i := 1273) (by decide +kernel), List.mem_of_getElem? (i := 1274) (by decide +kernel)⟩
theorem lw_p50 : lw_okq (⟨"ArguedFerryModel", "overIn", "(III)I"⟩, 35) := ⟨⟨by decide +kernel, by decide +kernel⟩, List.mem_of_getElem? (i := 994) (by decide +kernel), List.mem_of_getElem? (i := 1281) (by decide +kernel), List.mem_of_getElem? (i := 1282) (by decide +kernel)⟩
theorem lw_p51 : lw_okq (⟨"ArguedFerryModel", "thinks", "()V"⟩, 35) := ⟨⟨by decide +kernel, by decide +kernel⟩, List.mem_of_getElem? (i := 994) (by decide +kernel), List.mem_of_getElem? (i := 1285) (by decide +kernel), List.mem_of_getElem? (i := 1286) (by decide +kernel)⟩
theorem lw_p52 : lw_okq (⟨"ArguedFerryModel", "putsBack", "()V"⟩, 35) := ⟨⟨by decide +kernel, by decide +kernel⟩, List.mem_of_getElem? (i := 994) (by decide +kernel), List.mem_of_getElem? (i := 1292) (by decide +kernel), List.mem_of_getElem? (i := 1293) (by decide +kernel)⟩
theorem lw_p53 : lw_okq (⟨"ArguedFerryModel", "soonest", "(III)I"⟩, 35) := ⟨⟨by decide +kernel, by decide +kernel⟩, List.mem_of_getElem? (i := 994) (by decide +kernel), List.mem_of_getElem? (i := 1300) (by decide +kernel), List.mem_of_getElem? (i := 1301) (by decide +kernel)⟩
theorem lw_p54 : lw_okq (⟨"ArguedFerryModel", "pairsOf", "(I)I"⟩, 35) := ⟨⟨by decide +kernel, by decide +kernel⟩, List.mem_of_getElem? (i := 994) (by decide +kernel), List.mem_of_getElem? (i := 1308) (by decide +kernel), List.mem_of_getElem? (i := 1309) (by decide +kernel)⟩
theorem lw_p55 : lw_okq (⟨"ArguedFerryModel", "crossedBy", "(I)I"⟩, 35) := ⟨⟨by decide +kernel, by decide +kernel⟩, List.mem_of_getElem? (i := 994) (by decide +kernel), List.mem_of_getElem? (i := 1325) (by decide +kernel), List.mem_of_getElem? (i := 1326) (by decide +kernel)⟩
theorem lw_p56 : lw_okq (⟨"ArguedFerryModel", "go", "()V"⟩, 35) := ⟨⟨by decide +kernel, by decide +kernel⟩, List.mem_of_getElem? (i := 994) (by decide +kernel), List.mem_of_getElem? (i := 1361) (by decide +kernel), List.mem_of_getElem? (i := 1362) (by decide +kernel)⟩
theorem lw_p57 : lw_okq (⟨"ArguedFerryModel", "isLetter", "(I)Z"⟩, 35) := ⟨⟨by decide +kernel, by decide +kernel⟩, List.mem_of_getElem? (i := 994) (by decide +kernel), List.mem_of_getElem? (i := 1365) (by decide +kernel), List.mem_of_getElem? (i := 1366) (by decide +kernel)⟩
theorem lw_p58 : lw_okq (⟨"ArguedFerryModel", "isFigure", "(I)Z"⟩, 35) := ⟨⟨by decide +kernel, by decide +kernel⟩, List.mem_of_getElem? (i := 994) (by decide +kernel), List.mem_of_getElem? (i := 1369) (by decide +kernel), List.mem_of_getElem? (i := 1370) (by decide +kernel)⟩
theorem lw_p59 : lw_okq (⟨"ArguedFerryModel", "takesKey", "()Z"⟩, 35) := ⟨⟨by decide +kernel, by decide +kernel⟩, List.mem_of_getElem? (i := 994) (by decide +kernel), List.mem_of_getElem? (i := 1373) (by decide +kernel), List.mem_of_getElem? (i := 1374) (by decide +kernel)⟩
theorem lw_p60 : lw_okq (⟨"ArguedFerryModel", "takesE", "()Z"⟩, 35) := ⟨⟨by decide +kernel, by decide +kernel⟩, List.mem_of_getElem? (i := 994) (by decide +kernel), List.mem_of_getElem? (i := 1377) (by decide +kernel), List.mem_of_getElem? (i := 1378) (by decide +kernel)⟩
theorem lw_p61 : lw_okq (⟨"ArguedFerryModel", "takesPart", "()Z"⟩, 35) := ⟨⟨by decide +kernel, by decide +kernel⟩, List.mem_of_getElem? (i := 994) (by decide +kernel), List.mem_of_getElem? (i := 1381) (by decide +kernel), List.mem_of_getElem? (i := 1382) (by decide +kernel)⟩
theorem lw_p62 : lw_okq (⟨"ArguedFerryModel", "nameOf", "(I)I"⟩, 35) := ⟨⟨by decide +kernel, by decide +kernel⟩, List.mem_of_getElem? (i := 994) (by decide +kernel), List.mem_of_getElem? (i := 1385) (by decide +kernel), List.mem_of_getElem? (i := 1386) (by decide +kernel)⟩
theorem lw_p63 : lw_okq (⟨"ArguedFerryModel", "settle", "(I)V"⟩, 35) := ⟨⟨by decide +kernel, by decide +kernel⟩, List.mem_of_getElem? (i := 994) (by decide +kernel), List.mem_of_getElem? (i := 1389) (by decide +kernel), List.mem_of_getElem? (i := 1390) (by decide +kernel)⟩
def lw_privs_4 : List (MethodName × Nat) := [(⟨"ArguedFerryModel", "across", "()I"⟩, 35), (⟨"ArguedFerryModel", "tempers", "()I"⟩, 35), (⟨"ArguedFerryModel", "overIn", "(III)I"⟩, 35), (⟨"ArguedFerryModel", "thinks", "()V"⟩, 35), (⟨"ArguedFerryModel", "putsBack", "()V"⟩, 35), (⟨"ArguedFerryModel", "soonest", "(III)I"⟩, 35), (⟨"ArguedFerryModel", "pairsOf", "(I)I"⟩, 35), (⟨"ArguedFerryModel", "crossedBy", "(I)I"⟩, 35), (⟨"ArguedFerryModel", "go", "()V"⟩, 35), (⟨"ArguedFerryModel", "isLetter", "(I)Z"⟩, 35), (⟨"ArguedFerryModel", "isFigure", "(I)Z"⟩, 35), (⟨"ArguedFerryModel", "takesKey", "()Z"⟩, 35), (⟨"ArguedFerryModel", "takesE", "()Z"⟩, 35), (⟨"ArguedFerryModel", "takesPart", "()Z"⟩, 35), (⟨"ArguedFerryModel", "nameOf", "(I)I"⟩, 35), (⟨"ArguedFerryModel", "settle", "(I)V"⟩, 35)]
theorem lw_r4 : ∀ q ∈ lw_privs_4, lw_okq q := List.forall_mem_cons.mpr ⟨lw_p48, List.forall_mem_cons.mpr ⟨lw_p49, List.forall_mem_cons.mpr ⟨lw_p50, List.forall_mem_cons.mpr ⟨lw_p51, List.forall_mem_cons.mpr ⟨lw_p52, List.forall_mem_cons.mpr ⟨lw_p53, List.forall_mem_cons.mpr ⟨lw_p54, List.forall_mem_cons.mpr ⟨lw_p55, List.forall_mem_cons.mpr ⟨lw_p56, List.forall_mem_cons.mpr ⟨lw_p57, List.forall_mem_cons.mpr ⟨lw_p58, List.forall_mem_cons.mpr ⟨lw_p59, List.forall_mem_cons.mpr ⟨lw_p60, List.forall_mem_cons.mpr ⟨lw_p61, List.forall_mem_cons.mpr ⟨lw_p62, List.forall_mem_cons.mpr ⟨lw_p63, fun _ h => absurd h List.not_mem_nil⟩⟩⟩⟩⟩⟩⟩⟩⟩⟩⟩⟩⟩⟩⟩⟩
theorem lw_p64 : lw_okq (⟨"ArguedFerryModel", "notsOpen", "()I"⟩, 35) := ⟨⟨by decide +kernel, by decide +kernel⟩, List.mem_of_getElem? (i := 994) (by decide +kernel), List.mem_of_getElem? (i := 1396) (by decide +kernel), List.mem_of_getElem? (i := 1397) (by decide +kernel)⟩
theorem lw_p65 : lw_okq (⟨"ArguedFerryModel", "signHere", "()I"⟩, 35) := ⟨⟨by decide +kernel, by decide +kernel⟩, List.mem_of_getElem? (i := 994) (by decide +kernel), List.mem_of_getElem? (i := 1400) (by decide +kernel), List.mem_of_getElem? (i := 1401) (by decide +kernel)⟩
def lw_privs_5 : List (MethodName × Nat) := [(⟨"ArguedFerryModel", "notsOpen", "()I"⟩, 35), (⟨"ArguedFerryModel", "signHere", "()I"⟩, 35)]
theorem lw_r5 : ∀ q ∈ lw_privs_5, lw_okq q := List.forall_mem_cons.mpr ⟨lw_p64, List.forall_mem_cons.mpr ⟨lw_p65, fun _ h => absurd h List.not_mem_nil⟩⟩
def lw_privs : List (MethodName × Nat) := lw_privs_1 ++ (lw_privs_2 ++ (lw_privs_3 ++ (lw_privs_4 ++ (lw_privs_5))))
def lw_tbl : List Cond := k2_sels lw_privs ++ tables_1
theorem lw_privs_ok : ∀ q ∈ lw_privs, lw_okq q := by
  show ∀ q ∈ lw_privs_1 ++ (lw_privs_2 ++ (lw_privs_3 ++ (lw_privs_4 ++ (lw_privs_5)))), lw_okq q
  exact List.forall_mem_append.mpr ⟨lw_r1, List.forall_mem_append.mpr ⟨lw_r2, List.forall_mem_append.mpr ⟨lw_r3, List.forall_mem_append.mpr ⟨lw_r4, lw_r5⟩⟩⟩⟩

def RX0 : String := "ArguedFerry$Goat"
def TX0 : u_T := fun k => match k with
  | _ => ("", "", "", false)
def tyX0 : Nat → FieldType := fun k => match k with
  | _ => .int
abbrev wsX00 : List Cond := u_ws RX0 TX0 0
theorem nmX0 : ∀ a, a < 0 → ∀ b, b < 0 → a ≠ b → (TX0 a).2.1 ≠ (TX0 b).2.1 := by decide +kernel
theorem tyX0_ok : ∀ k, k < 0 → parseFieldDescriptor (TX0 k).2.2.1 = some (tyX0 k) := by decide +kernel
abbrev cX0_init : ByteArray := prog_2_method_1_code
def yX0_init : MethodName := ⟨RX0, "<init>", "()V"⟩
abbrev cX0_kind : ByteArray := prog_2_method_2_code
def yX0_kind : MethodName := ⟨RX0, "kind", "()I"⟩
abbrev cX0_isOf : ByteArray := prog_2_method_3_code
def yX0_isOf : MethodName := ⟨RX0, "isOf", "(I)Z"⟩
abbrev cX0_heats : ByteArray := prog_2_method_4_code
def yX0_heats : MethodName := ⟨RX0, "heats", "(I)I"⟩
abbrev cX0_shifts : ByteArray := prog_2_method_5_code
def yX0_shifts : MethodName := ⟨RX0, "shifts", "(II)I"⟩
abbrev cX0_worth : ByteArray := prog_2_method_6_code
def yX0_worth : MethodName := ⟨RX0, "worth", "(I)I"⟩
def RX1 : String := "ArguedFerry$Hired"
def TX1 : u_T := fun k => match k with
  | _ => ("", "", "", false)
def tyX1 : Nat → FieldType := fun k => match k with
  | _ => .int
abbrev wsX10 : List Cond := u_ws RX1 TX1 0
theorem nmX1 : ∀ a, a < 0 → ∀ b, b < 0 → a ≠ b → (TX1 a).2.1 ≠ (TX1 b).2.1 := by decide +kernel
theorem tyX1_ok : ∀ k, k < 0 → parseFieldDescriptor (TX1 k).2.2.1 = some (tyX1 k) := by decide +kernel
abbrev cX1_init : ByteArray := prog_3_method_1_code
def yX1_init : MethodName := ⟨RX1, "<init>", "()V"⟩
abbrev cX1_kind : ByteArray := prog_3_method_2_code
def yX1_kind : MethodName := ⟨RX1, "kind", "()I"⟩
abbrev cX1_isOf : ByteArray := prog_3_method_3_code
def yX1_isOf : MethodName := ⟨RX1, "isOf", "(I)Z"⟩
abbrev cX1_speaks : ByteArray := prog_3_method_4_code
def yX1_speaks : MethodName := ⟨RX1, "speaks", "(II)I"⟩
abbrev cX1_heats : ByteArray := prog_3_method_5_code
def yX1_heats : MethodName := ⟨RX1, "heats", "(I)I"⟩
abbrev cX1_shifts : ByteArray := prog_3_method_6_code
def yX1_shifts : MethodName := ⟨RX1, "shifts", "(II)I"⟩
abbrev cX1_worth : ByteArray := prog_3_method_7_code
def yX1_worth : MethodName := ⟨RX1, "worth", "(I)I"⟩
def RX2 : String := "ArguedFerry$Married"
def TX2 : u_T := fun k => match k with
  | _ => ("", "", "", false)
def tyX2 : Nat → FieldType := fun k => match k with
  | _ => .int
abbrev wsX20 : List Cond := u_ws RX2 TX2 0
theorem nmX2 : ∀ a, a < 0 → ∀ b, b < 0 → a ≠ b → (TX2 a).2.1 ≠ (TX2 b).2.1 := by decide +kernel
theorem tyX2_ok : ∀ k, k < 0 → parseFieldDescriptor (TX2 k).2.2.1 = some (tyX2 k) := by decide +kernel
abbrev cX2_init : ByteArray := prog_4_method_1_code
def yX2_init : MethodName := ⟨RX2, "<init>", "()V"⟩
abbrev cX2_kind : ByteArray := prog_4_method_2_code
def yX2_kind : MethodName := ⟨RX2, "kind", "()I"⟩
abbrev cX2_isOf : ByteArray := prog_4_method_3_code
def yX2_isOf : MethodName := ⟨RX2, "isOf", "(I)Z"⟩
abbrev cX2_speaks : ByteArray := prog_4_method_4_code
def yX2_speaks : MethodName := ⟨RX2, "speaks", "(II)I"⟩
abbrev cX2_heats : ByteArray := prog_4_method_5_code
def yX2_heats : MethodName := ⟨RX2, "heats", "(I)I"⟩
abbrev cX2_worth : ByteArray := prog_4_method_6_code
def yX2_worth : MethodName := ⟨RX2, "worth", "(I)I"⟩
def RX3 : String := "ArguedFerry$Nature"
def TX3 : u_T := fun k => match k with
  | _ => ("", "", "", false)
def tyX3 : Nat → FieldType := fun k => match k with
  | _ => .int
abbrev wsX30 : List Cond := u_ws RX3 TX3 0
theorem nmX3 : ∀ a, a < 0 → ∀ b, b < 0 → a ≠ b → (TX3 a).2.1 ≠ (TX3 b).2.1 := by decide +kernel
theorem tyX3_ok : ∀ k, k < 0 → parseFieldDescriptor (TX3 k).2.2.1 = some (tyX3 k) := by decide +kernel
abbrev cX3_init : ByteArray := prog_5_method_1_code
def yX3_init : MethodName := ⟨RX3, "<init>", "()V"⟩
abbrev cX3_kind : ByteArray := prog_5_method_2_code
def yX3_kind : MethodName := ⟨RX3, "kind", "()I"⟩
abbrev cX3_isOf : ByteArray := prog_5_method_3_code
def yX3_isOf : MethodName := ⟨RX3, "isOf", "(I)Z"⟩
abbrev cX3_speaks : ByteArray := prog_5_method_4_code
def yX3_speaks : MethodName := ⟨RX3, "speaks", "(II)I"⟩
abbrev cX3_heats : ByteArray := prog_5_method_5_code
def yX3_heats : MethodName := ⟨RX3, "heats", "(I)I"⟩
abbrev cX3_shifts : ByteArray := prog_5_method_6_code
def yX3_shifts : MethodName := ⟨RX3, "shifts", "(II)I"⟩
abbrev cX3_worth : ByteArray := prog_5_method_7_code
def yX3_worth : MethodName := ⟨RX3, "worth", "(I)I"⟩
def RX4 : String := "ArguedFerry$Passenger"
def TX4 : u_T := fun k => match k with
  | 0 => ("ArguedFerry$Passenger", "nature", "LArguedFerry$Nature;", false)
  | 1 => ("ArguedFerry$Passenger", "bank", "I", false)
  | 2 => ("ArguedFerry$Passenger", "temper", "I", false)
  | _ => ("ArguedFerry$Passenger", "views", "[I", true)
def tyX4 : Nat → FieldType := fun k => match k with
  | 0 => .object "ArguedFerry$Nature"
  | 1 => .int
  | 2 => .int
  | _ => .array .int
abbrev wsX40 : List Cond := u_ws RX4 TX4 4
theorem nmX4 : ∀ a, a < 4 → ∀ b, b < 4 → a ≠ b → (TX4 a).2.1 ≠ (TX4 b).2.1 := by decide +kernel
theorem tyX4_ok : ∀ k, k < 4 → parseFieldDescriptor (TX4 k).2.2.1 = some (tyX4 k) := by decide +kernel
abbrev cX4_init : ByteArray := prog_6_method_1_code
def yX4_init : MethodName := ⟨RX4, "<init>", "(LArguedFerry$Nature;)V"⟩
abbrev cX4_begin : ByteArray := prog_6_method_2_code
def yX4_begin : MethodName := ⟨RX4, "begin", "(LArguedFerry$Nature;I)V"⟩
abbrev cX4_becomeAs : ByteArray := prog_6_method_3_code
def yX4_becomeAs : MethodName := ⟨RX4, "becomeAs", "(LArguedFerry$Passenger;)V"⟩
abbrev cX4_apartFrom : ByteArray := prog_6_method_4_code
def yX4_apartFrom : MethodName := ⟨RX4, "apartFrom", "(LArguedFerry$Passenger;I)I"⟩
abbrev cX4_heatUp : ByteArray := prog_6_method_5_code
def yX4_heatUp : MethodName := ⟨RX4, "heatUp", "(I)V"⟩
def RX5 : String := "ArguedFerry$Row"
def TX5 : u_T := fun k => match k with
  | 0 => ("ArguedFerry$Row", "sort", "I", false)
  | 1 => ("ArguedFerry$Row", "size", "I", false)
  | _ => ("ArguedFerry$Row", "places", "[I", true)
def tyX5 : Nat → FieldType := fun k => match k with
  | 0 => .int
  | 1 => .int
  | _ => .array .int
abbrev wsX50 : List Cond := u_ws RX5 TX5 3
theorem nmX5 : ∀ a, a < 3 → ∀ b, b < 3 → a ≠ b → (TX5 a).2.1 ≠ (TX5 b).2.1 := by decide +kernel
theorem tyX5_ok : ∀ k, k < 3 → parseFieldDescriptor (TX5 k).2.2.1 = some (tyX5 k) := by decide +kernel
abbrev cX5_init : ByteArray := prog_7_method_1_code
def yX5_init : MethodName := ⟨RX5, "<init>", "()V"⟩
abbrev cX5_become : ByteArray := prog_7_method_2_code
def yX5_become : MethodName := ⟨RX5, "become", "(II)V"⟩
abbrev cX5_becomeAs : ByteArray := prog_7_method_3_code
def yX5_becomeAs : MethodName := ⟨RX5, "becomeAs", "(LArguedFerry$Row;)V"⟩
abbrev cX5_isMissing : ByteArray := prog_7_method_4_code
def yX5_isMissing : MethodName := ⟨RX5, "isMissing", "()Z"⟩
abbrev cX5_hasPlace : ByteArray := prog_7_method_5_code
def yX5_hasPlace : MethodName := ⟨RX5, "hasPlace", "(I)Z"⟩
abbrev cX5_hasPlaces : ByteArray := prog_7_method_6_code
def yX5_hasPlaces : MethodName := ⟨RX5, "hasPlaces", "(II)Z"⟩
abbrev cX5_isNumber : ByteArray := prog_7_method_7_code
def yX5_isNumber : MethodName := ⟨RX5, "isNumber", "(I)Z"⟩
def RX6 : String := "ArguedFerry$Silent"
def TX6 : u_T := fun k => match k with
  | _ => ("", "", "", false)
def tyX6 : Nat → FieldType := fun k => match k with
  | _ => .int
abbrev wsX60 : List Cond := u_ws RX6 TX6 0
theorem nmX6 : ∀ a, a < 0 → ∀ b, b < 0 → a ≠ b → (TX6 a).2.1 ≠ (TX6 b).2.1 := by decide +kernel
theorem tyX6_ok : ∀ k, k < 0 → parseFieldDescriptor (TX6 k).2.2.1 = some (tyX6 k) := by decide +kernel
abbrev cX6_init : ByteArray := prog_8_method_1_code
def yX6_init : MethodName := ⟨RX6, "<init>", "()V"⟩
abbrev cX6_kind : ByteArray := prog_8_method_2_code
def yX6_kind : MethodName := ⟨RX6, "kind", "()I"⟩
abbrev cX6_isOf : ByteArray := prog_8_method_3_code
def yX6_isOf : MethodName := ⟨RX6, "isOf", "(I)Z"⟩
abbrev cX6_speaks : ByteArray := prog_8_method_4_code
def yX6_speaks : MethodName := ⟨RX6, "speaks", "(II)I"⟩
abbrev cX6_shifts : ByteArray := prog_8_method_5_code
def yX6_shifts : MethodName := ⟨RX6, "shifts", "(II)I"⟩
abbrev cX6_worth : ByteArray := prog_8_method_6_code
def yX6_worth : MethodName := ⟨RX6, "worth", "(I)I"⟩
def RX7 : String := "ArguedFerry$Tape"
def TX7 : u_T := fun k => match k with
  | 0 => ("ArguedFerry$Tape", "bytes", "[I", true)
  | 1 => ("ArguedFerry$Tape", "length", "I", false)
  | 2 => ("ArguedFerry$Tape", "start", "I", false)
  | 3 => ("ArguedFerry$Tape", "end", "I", false)
  | 4 => ("ArguedFerry$Tape", "token", "I", false)
  | _ => ("ArguedFerry$Tape", "taken", "LArguedFerry$Text;", false)
def tyX7 : Nat → FieldType := fun k => match k with
  | 0 => .array .int
  | 1 => .int
  | 2 => .int
  | 3 => .int
  | 4 => .int
  | _ => .object "ArguedFerry$Text"
abbrev wsX70 : List Cond := u_ws RX7 TX7 6
theorem nmX7 : ∀ a, a < 6 → ∀ b, b < 6 → a ≠ b → (TX7 a).2.1 ≠ (TX7 b).2.1 := by decide +kernel
theorem tyX7_ok : ∀ k, k < 6 → parseFieldDescriptor (TX7 k).2.2.1 = some (tyX7 k) := by decide +kernel
abbrev cX7_init : ByteArray := prog_9_method_1_code
def yX7_init : MethodName := ⟨RX7, "<init>", "()V"⟩
abbrev cX7_append : ByteArray := prog_9_method_2_code
def yX7_append : MethodName := ⟨RX7, "append", "(I)V"⟩
abbrev cX7_takeText : ByteArray := prog_9_method_3_code
def yX7_takeText : MethodName := ⟨RX7, "takeText", "(LArguedFerry$Text;)Z"⟩
abbrev cX7_goOn : ByteArray := prog_9_method_4_code
def yX7_goOn : MethodName := ⟨RX7, "goOn", "()V"⟩
abbrev cX7_isWord : ByteArray := prog_9_method_5_code
def yX7_isWord : MethodName := ⟨RX7, "isWord", "(I)Z"⟩
abbrev cX7_sortOf : ByteArray := prog_9_method_6_code
def yX7_sortOf : MethodName := ⟨RX7, "sortOf", "(I)I"⟩
abbrev cX7_keyHere : ByteArray := prog_9_method_7_code
def yX7_keyHere : MethodName := ⟨RX7, "keyHere", "()I"⟩
abbrev cX7_isWordHere : ByteArray := prog_9_method_8_code
def yX7_isWordHere : MethodName := ⟨RX7, "isWordHere", "(Ljava/lang/String;)Z"⟩
abbrev cX7_takeOr : ByteArray := prog_9_method_9_code
def yX7_takeOr : MethodName := ⟨RX7, "takeOr", "(II)Z"⟩
abbrev cX7_takeAnd : ByteArray := prog_9_method_10_code
def yX7_takeAnd : MethodName := ⟨RX7, "takeAnd", "(II)Z"⟩
abbrev cX7_takeTest : ByteArray := prog_9_method_11_code
def yX7_takeTest : MethodName := ⟨RX7, "takeTest", "(II)Z"⟩
abbrev cX7_takeSum : ByteArray := prog_9_method_12_code
def yX7_takeSum : MethodName := ⟨RX7, "takeSum", "(II)Z"⟩
abbrev cX7_takeTerm : ByteArray := prog_9_method_13_code
def yX7_takeTerm : MethodName := ⟨RX7, "takeTerm", "(II)Z"⟩
abbrev cX7_takePiece : ByteArray := prog_9_method_14_code
def yX7_takePiece : MethodName := ⟨RX7, "takePiece", "(II)Z"⟩
abbrev cX7_takeNot : ByteArray := prog_9_method_15_code
def yX7_takeNot : MethodName := ⟨RX7, "takeNot", "(II)Z"⟩
abbrev cX7_takeBracket : ByteArray := prog_9_method_16_code
def yX7_takeBracket : MethodName := ⟨RX7, "takeBracket", "(II)Z"⟩
abbrev cX7_takeNumber : ByteArray := prog_9_method_17_code
def yX7_takeNumber : MethodName := ⟨RX7, "takeNumber", "()Z"⟩
abbrev cX7_takeName : ByteArray := prog_9_method_18_code
def yX7_takeName : MethodName := ⟨RX7, "takeName", "()Z"⟩
def RX8 : String := "ArguedFerry$Text"
def TX8 : u_T := fun k => match k with
  | 0 => ("ArguedFerry$Text", "number", "I", true)
  | 1 => ("ArguedFerry$Text", "key", "I", false)
  | 2 => ("ArguedFerry$Text", "operands", "I", false)
  | 3 => ("ArguedFerry$Text", "length", "I", false)
  | 4 => ("ArguedFerry$Text", "codes", "[I", true)
  | _ => ("ArguedFerry$Text", "stack", "[I", true)
def tyX8 : Nat → FieldType := fun k => match k with
  | 0 => .int
  | 1 => .int
  | 2 => .int
  | 3 => .int
  | 4 => .array .int
  | _ => .array .int
abbrev wsX80 : List Cond := u_ws RX8 TX8 6
theorem nmX8 : ∀ a, a < 6 → ∀ b, b < 6 → a ≠ b → (TX8 a).2.1 ≠ (TX8 b).2.1 := by decide +kernel
theorem tyX8_ok : ∀ k, k < 6 → parseFieldDescriptor (TX8 k).2.2.1 = some (tyX8 k) := by decide +kernel
abbrev cX8_init : ByteArray := prog_10_method_1_code
def yX8_init : MethodName := ⟨RX8, "<init>", "(I)V"⟩
abbrev cX8_begin : ByteArray := prog_10_method_2_code
def yX8_begin : MethodName := ⟨RX8, "begin", "(I)V"⟩
abbrev cX8_addNumber : ByteArray := prog_10_method_3_code
def yX8_addNumber : MethodName := ⟨RX8, "addNumber", "(I)V"⟩
abbrev cX8_addName : ByteArray := prog_10_method_4_code
def yX8_addName : MethodName := ⟨RX8, "addName", "(I)V"⟩
abbrev cX8_addSign : ByteArray := prog_10_method_5_code
def yX8_addSign : MethodName := ⟨RX8, "addSign", "(I)V"⟩
abbrev cX8_addCode : ByteArray := prog_10_method_6_code
def yX8_addCode : MethodName := ⟨RX8, "addCode", "(I)V"⟩
abbrev cX8_valueOf : ByteArray := prog_10_method_7_code
def yX8_valueOf : MethodName := ⟨RX8, "valueOf", "(III)I"⟩
abbrev cX8_workedOut : ByteArray := prog_10_method_8_code
def yX8_workedOut : MethodName := ⟨RX8, "workedOut", "(III)I"⟩
def RX9 : String := "ArguedFerry$Twice"
def TX9 : u_T := fun k => match k with
  | _ => ("", "", "", false)
def tyX9 : Nat → FieldType := fun k => match k with
  | _ => .int
abbrev wsX90 : List Cond := u_ws RX9 TX9 0
theorem nmX9 : ∀ a, a < 0 → ∀ b, b < 0 → a ≠ b → (TX9 a).2.1 ≠ (TX9 b).2.1 := by decide +kernel
theorem tyX9_ok : ∀ k, k < 0 → parseFieldDescriptor (TX9 k).2.2.1 = some (tyX9 k) := by decide +kernel
abbrev cX9_init : ByteArray := prog_11_method_1_code
def yX9_init : MethodName := ⟨RX9, "<init>", "()V"⟩
abbrev cX9_kind : ByteArray := prog_11_method_2_code
def yX9_kind : MethodName := ⟨RX9, "kind", "()I"⟩
abbrev cX9_isOf : ByteArray := prog_11_method_3_code
def yX9_isOf : MethodName := ⟨RX9, "isOf", "(I)Z"⟩
abbrev cX9_speaks : ByteArray := prog_11_method_4_code
def yX9_speaks : MethodName := ⟨RX9, "speaks", "(II)I"⟩
abbrev cX9_heats : ByteArray := prog_11_method_5_code
def yX9_heats : MethodName := ⟨RX9, "heats", "(I)I"⟩
abbrev cX9_shifts : ByteArray := prog_11_method_6_code
def yX9_shifts : MethodName := ⟨RX9, "shifts", "(II)I"⟩
abbrev cX9_worth : ByteArray := prog_11_method_7_code
def yX9_worth : MethodName := ⟨RX9, "worth", "(I)I"⟩
def RX10 : String := "ArguedFerry$World"
def TX10 : u_T := fun k => match k with
  | 0 => ("ArguedFerry$World", "crew", "[LArguedFerry$Passenger;", true)
  | 1 => ("ArguedFerry$World", "many", "I", false)
  | 2 => ("ArguedFerry$World", "side", "I", false)
  | 3 => ("ArguedFerry$World", "way", "I", false)
  | 4 => ("ArguedFerry$World", "first", "I", false)
  | 5 => ("ArguedFerry$World", "second", "I", false)
  | 6 => ("ArguedFerry$World", "matter", "I", false)
  | 7 => ("ArguedFerry$World", "wind", "I", false)
  | 8 => ("ArguedFerry$World", "limit", "I", false)
  | 9 => ("ArguedFerry$World", "tally", "[I", true)
  | 10 => ("ArguedFerry$World", "minute", "I", false)
  | 11 => ("ArguedFerry$World", "z", "I", false)
  | 12 => ("ArguedFerry$World", "laws", "[LArguedFerry$Text;", true)
  | _ => ("ArguedFerry$World", "textsTold", "I", false)
def tyX10 : Nat → FieldType := fun k => match k with
  | 0 => .array (.object "ArguedFerry$Passenger")
  | 1 => .int
  | 2 => .int
  | 3 => .int
  | 4 => .int
  | 5 => .int
  | 6 => .int
  | 7 => .int
  | 8 => .int
  | 9 => .array .int
  | 10 => .int
  | 11 => .int
  | 12 => .array (.object "ArguedFerry$Text")
  | _ => .int
abbrev wsX100 : List Cond := u_ws RX10 TX10 14
theorem nmX10 : ∀ a, a < 14 → ∀ b, b < 14 → a ≠ b → (TX10 a).2.1 ≠ (TX10 b).2.1 := by decide +kernel
theorem tyX10_ok : ∀ k, k < 14 → parseFieldDescriptor (TX10 k).2.2.1 = some (tyX10 k) := by decide +kernel
abbrev cX10_init : ByteArray := prog_12_method_1_code
def yX10_init : MethodName := ⟨RX10, "<init>", "(LArguedFerry$Nature;)V"⟩
abbrev cX10_becomeAs : ByteArray := prog_12_method_2_code
def yX10_becomeAs : MethodName := ⟨RX10, "becomeAs", "(LArguedFerry$World;)V"⟩
abbrev cX10_draw : ByteArray := prog_12_method_3_code
def yX10_draw : MethodName := ⟨RX10, "draw", "()I"⟩
abbrev cX10_standing : ByteArray := prog_12_method_4_code
def yX10_standing : MethodName := ⟨RX10, "standing", "(I)I"⟩
abbrev cX10_heatOfAll : ByteArray := prog_12_method_5_code
def yX10_heatOfAll : MethodName := ⟨RX10, "heatOfAll", "()I"⟩
abbrev cX10_speechOf : ByteArray := prog_12_method_6_code
def yX10_speechOf : MethodName := ⟨RX10, "speechOf", "(LArguedFerry$Passenger;I)I"⟩
abbrev cX10_passMinutes : ByteArray := prog_12_method_7_code
def yX10_passMinutes : MethodName := ⟨RX10, "passMinutes", "(I)V"⟩
abbrev cX10_passMinute : ByteArray := prog_12_method_8_code
def yX10_passMinute : MethodName := ⟨RX10, "passMinute", "()V"⟩
abbrev cX10_goAboard : ByteArray := prog_12_method_9_code
def yX10_goAboard : MethodName := ⟨RX10, "goAboard", "(III)V"⟩
abbrev cX10_thoseOver : ByteArray := prog_12_method_10_code
def yX10_thoseOver : MethodName := ⟨RX10, "thoseOver", "()I"⟩
abbrev cX10_nextAshore : ByteArray := prog_12_method_11_code
def yX10_nextAshore : MethodName := ⟨RX10, "nextAshore", "(I)I"⟩
abbrev cX10_setOff : ByteArray := prog_12_method_12_code
def yX10_setOff : MethodName := ⟨RX10, "setOff", "()V"⟩
abbrev cX10_argueOn : ByteArray := prog_12_method_13_code
def yX10_argueOn : MethodName := ⟨RX10, "argueOn", "()V"⟩
abbrev cX10_goAshore : ByteArray := prog_12_method_14_code
def yX10_goAshore : MethodName := ⟨RX10, "goAshore", "()V"⟩
abbrev cX10_shiftViews : ByteArray := prog_12_method_15_code
def yX10_shiftViews : MethodName := ⟨RX10, "shiftViews", "(LArguedFerry$Passenger;LArguedFerry$Passenger;)V"⟩
def RX11 : String := "ArguedFerry"
def TX11 : u_T := fun k => match k with
  | 0 => ("ArguedFerry", "natures", "[LArguedFerry$Nature;", true)
  | 1 => ("ArguedFerry", "now", "LArguedFerry$World;", true)
  | 2 => ("ArguedFerry", "image", "LArguedFerry$World;", true)
  | 3 => ("ArguedFerry", "thought", "LArguedFerry$World;", true)
  | 4 => ("ArguedFerry", "hasImage", "Z", false)
  | 5 => ("ArguedFerry", "texts", "[LArguedFerry$Text;", true)
  | 6 => ("ArguedFerry", "tape", "LArguedFerry$Tape;", true)
  | 7 => ("ArguedFerry", "sheets", "[LArguedFerry$Row;", true)
  | 8 => ("ArguedFerry", "things", "[I", true)
  | 9 => ("ArguedFerry", "laidPassengers", "[LArguedFerry$Passenger;", true)
  | 10 => ("ArguedFerry", "laidRows", "[LArguedFerry$Row;", true)
  | 11 => ("ArguedFerry", "laidNumbers", "[I", true)
  | 12 => ("ArguedFerry", "waiting", "[I", true)
  | 13 => ("ArguedFerry", "waits", "I", false)
  | 14 => ("ArguedFerry", "partners", "[I", true)
  | 15 => ("ArguedFerry", "mostPairs", "[I", true)
  | _ => ("ArguedFerry", "differences", "[I", true)
def tyX11 : Nat → FieldType := fun k => match k with
  | 0 => .array (.object "ArguedFerry$Nature")
  | 1 => .object "ArguedFerry$World"
  | 2 => .object "ArguedFerry$World"
  | 3 => .object "ArguedFerry$World"
  | 4 => .boolean
  | 5 => .array (.object "ArguedFerry$Text")
  | 6 => .object "ArguedFerry$Tape"
  | 7 => .array (.object "ArguedFerry$Row")
  | 8 => .array .int
  | 9 => .array (.object "ArguedFerry$Passenger")
  | 10 => .array (.object "ArguedFerry$Row")
  | 11 => .array .int
  | 12 => .array .int
  | 13 => .int
  | 14 => .array .int
  | 15 => .array .int
  | _ => .array .int
abbrev wsX110 : List Cond := u_ws RX11 TX11 17
theorem nmX11 : ∀ a, a < 17 → ∀ b, b < 17 → a ≠ b → (TX11 a).2.1 ≠ (TX11 b).2.1 := by decide +kernel
theorem tyX11_ok : ∀ k, k < 17 → parseFieldDescriptor (TX11 k).2.2.1 = some (tyX11 k) := by decide +kernel
abbrev cX11_init : ByteArray := prog_1_method_1_code
def yX11_init : MethodName := ⟨RX11, "<init>", "()V"⟩
abbrev cX11_one : ByteArray := prog_1_method_2_code
def yX11_one : MethodName := ⟨RX11, "one", "(II)I"⟩
abbrev cX11_told : ByteArray := prog_1_method_3_code
def yX11_told : MethodName := ⟨RX11, "told", "(II)I"⟩
abbrev cX11_view : ByteArray := prog_1_method_4_code
def yX11_view : MethodName := ⟨RX11, "view", "(II)I"⟩
abbrev cX11_believes : ByteArray := prog_1_method_5_code
def yX11_believes : MethodName := ⟨RX11, "believes", "(III)I"⟩
abbrev cX11_as : ByteArray := prog_1_method_6_code
def yX11_as : MethodName := ⟨RX11, "as", "(II)I"⟩
abbrev cX11_turns : ByteArray := prog_1_method_7_code
def yX11_turns : MethodName := ⟨RX11, "turns", "(II)I"⟩
abbrev cX11_set : ByteArray := prog_1_method_8_code
def yX11_set : MethodName := ⟨RX11, "set", "(III)I"⟩
abbrev cX11_rule : ByteArray := prog_1_method_9_code
def yX11_rule : MethodName := ⟨RX11, "rule", "(II)I"⟩
abbrev cX11_deal : ByteArray := prog_1_method_10_code
def yX11_deal : MethodName := ⟨RX11, "deal", "(I)I"⟩
abbrev cX11_seed : ByteArray := prog_1_method_11_code
def yX11_seed : MethodName := ⟨RX11, "seed", "(I)I"⟩
abbrev cX11_boat : ByteArray := prog_1_method_12_code
def yX11_boat : MethodName := ⟨RX11, "boat", "(I)I"⟩
abbrev cX11_argues : ByteArray := prog_1_method_13_code
def yX11_argues : MethodName := ⟨RX11, "argues", "(IIII)I"⟩
abbrev cX11_minutes : ByteArray := prog_1_method_14_code
def yX11_minutes : MethodName := ⟨RX11, "minutes", "(I)I"⟩
abbrev cX11_ferry : ByteArray := prog_1_method_15_code
def yX11_ferry : MethodName := ⟨RX11, "ferry", "(I)I"⟩
abbrev cX11_over : ByteArray := prog_1_method_16_code
def yX11_over : MethodName := ⟨RX11, "over", "(III)I"⟩
abbrev cX11_settles : ByteArray := prog_1_method_17_code
def yX11_settles : MethodName := ⟨RX11, "settles", "(III)I"⟩
abbrev cX11_pairs : ByteArray := prog_1_method_18_code
def yX11_pairs : MethodName := ⟨RX11, "pairs", "(I)I"⟩
abbrev cX11_behind : ByteArray := prog_1_method_19_code
def yX11_behind : MethodName := ⟨RX11, "behind", "(II)I"⟩
abbrev cX11_lands : ByteArray := prog_1_method_20_code
def yX11_lands : MethodName := ⟨RX11, "lands", "(I)I"⟩
abbrev cX11_calm : ByteArray := prog_1_method_21_code
def yX11_calm : MethodName := ⟨RX11, "calm", "(II)I"⟩
abbrev cX11_becomes : ByteArray := prog_1_method_22_code
def yX11_becomes : MethodName := ⟨RX11, "becomes", "(III)I"⟩
abbrev cX11_like : ByteArray := prog_1_method_23_code
def yX11_like : MethodName := ⟨RX11, "like", "(II)I"⟩
abbrev cX11_fee : ByteArray := prog_1_method_24_code
def yX11_fee : MethodName := ⟨RX11, "fee", "()I"⟩
abbrev cX11_fine : ByteArray := prog_1_method_25_code
def yX11_fine : MethodName := ⟨RX11, "fine", "(I)I"⟩
abbrev cX11_feed : ByteArray := prog_1_method_26_code
def yX11_feed : MethodName := ⟨RX11, "feed", "(III)I"⟩
abbrev cX11_trim : ByteArray := prog_1_method_27_code
def yX11_trim : MethodName := ⟨RX11, "trim", "(I)I"⟩
abbrev cX11_text : ByteArray := prog_1_method_28_code
def yX11_text : MethodName := ⟨RX11, "text", "()I"⟩
abbrev cX11_textTold : ByteArray := prog_1_method_29_code
def yX11_textTold : MethodName := ⟨RX11, "textTold", "(II)I"⟩
abbrev cX11_why : ByteArray := prog_1_method_30_code
def yX11_why : MethodName := ⟨RX11, "why", "(I)I"⟩
abbrev cX11_sheet : ByteArray := prog_1_method_31_code
def yX11_sheet : MethodName := ⟨RX11, "sheet", "(III)I"⟩
abbrev cX11_mark : ByteArray := prog_1_method_32_code
def yX11_mark : MethodName := ⟨RX11, "mark", "(III)I"⟩
abbrev cX11_pour : ByteArray := prog_1_method_33_code
def yX11_pour : MethodName := ⟨RX11, "pour", "(I)I"⟩
abbrev cX11_reads : ByteArray := prog_1_method_34_code
def yX11_reads : MethodName := ⟨RX11, "reads", "(I)I"⟩
abbrev cX11_copy : ByteArray := prog_1_method_35_code
def yX11_copy : MethodName := ⟨RX11, "copy", "(IIIII)I"⟩
abbrev cX11_lay : ByteArray := prog_1_method_36_code
def yX11_lay : MethodName := ⟨RX11, "lay", "(III)I"⟩
abbrev cX11_ask : ByteArray := prog_1_method_37_code
def yX11_ask : MethodName := ⟨RX11, "ask", "(II)I"⟩
abbrev cX11_item : ByteArray := prog_1_method_38_code
def yX11_item : MethodName := ⟨RX11, "item", "(II)I"⟩
abbrev cX11_rest : ByteArray := prog_1_method_39_code
def yX11_rest : MethodName := ⟨RX11, "rest", "(II)I"⟩
abbrev cX11_tell : ByteArray := prog_1_method_40_code
def yX11_tell : MethodName := ⟨RX11, "tell", "(I)I"⟩
abbrev cX11_check : ByteArray := prog_1_method_41_code
def yX11_check : MethodName := ⟨RX11, "check", "(I)I"⟩
abbrev cX11_keep : ByteArray := prog_1_method_42_code
def yX11_keep : MethodName := ⟨RX11, "keep", "()I"⟩
abbrev cX11_back : ByteArray := prog_1_method_43_code
def yX11_back : MethodName := ⟨RX11, "back", "()I"⟩
abbrev cX11_count : ByteArray := prog_1_method_44_code
def yX11_count : MethodName := ⟨RX11, "count", "(I)I"⟩
abbrev cX11_within : ByteArray := prog_1_method_45_code
def yX11_within : MethodName := ⟨RX11, "within", "(III)Z"⟩
abbrev cX11_held : ByteArray := prog_1_method_46_code
def yX11_held : MethodName := ⟨RX11, "held", "(I)I"⟩
abbrev cX11_isKind : ByteArray := prog_1_method_47_code
def yX11_isKind : MethodName := ⟨RX11, "isKind", "(I)Z"⟩
abbrev cX11_isBank : ByteArray := prog_1_method_48_code
def yX11_isBank : MethodName := ⟨RX11, "isBank", "(I)Z"⟩
abbrev cX11_isMatter : ByteArray := prog_1_method_49_code
def yX11_isMatter : MethodName := ⟨RX11, "isMatter", "(I)Z"⟩
abbrev cX11_isSheet : ByteArray := prog_1_method_50_code
def yX11_isSheet : MethodName := ⟨RX11, "isSheet", "(I)Z"⟩
abbrev cX11_isSlot : ByteArray := prog_1_method_51_code
def yX11_isSlot : MethodName := ⟨RX11, "isSlot", "(I)Z"⟩
abbrev cX11_isOne : ByteArray := prog_1_method_52_code
def yX11_isOne : MethodName := ⟨RX11, "isOne", "(I)Z"⟩
abbrev cX11_areTwo : ByteArray := prog_1_method_53_code
def yX11_areTwo : MethodName := ⟨RX11, "areTwo", "(II)Z"⟩
abbrev cX11_waitsAt : ByteArray := prog_1_method_54_code
def yX11_waitsAt : MethodName := ⟨RX11, "waitsAt", "(III)Z"⟩
abbrev cX11_minutesOver : ByteArray := prog_1_method_55_code
def yX11_minutesOver : MethodName := ⟨RX11, "minutesOver", "(III)I"⟩
abbrev cX11_findPartners : ByteArray := prog_1_method_56_code
def yX11_findPartners : MethodName := ⟨RX11, "findPartners", "(I)V"⟩
abbrev cX11_pairsOf : ByteArray := prog_1_method_57_code
def yX11_pairsOf : MethodName := ⟨RX11, "pairsOf", "(I)I"⟩
abbrev cX11_sumDifferences : ByteArray := prog_1_method_58_code
def yX11_sumDifferences : MethodName := ⟨RX11, "sumDifferences", "(LArguedFerry$Row;)V"⟩
def RX12 : String := "ArguedFerryModel"
def TX12 : u_T := fun k => match k with
  | 0 => ("ArguedFerryModel", "now", "[I", true)
  | 1 => ("ArguedFerryModel", "image", "[I", true)
  | 2 => ("ArguedFerryModel", "aside", "[I", true)
  | 3 => ("ArguedFerryModel", "hasImage", "Z", false)
  | 4 => ("ArguedFerryModel", "before", "[I", true)
  | 5 => ("ArguedFerryModel", "pair", "[Z", true)
  | 6 => ("ArguedFerryModel", "off", "[I", true)
  | 7 => ("ArguedFerryModel", "tape", "[I", true)
  | 8 => ("ArguedFerryModel", "taped", "I", false)
  | 9 => ("ArguedFerryModel", "next", "I", false)
  | 10 => ("ArguedFerryModel", "from", "I", false)
  | 11 => ("ArguedFerryModel", "token", "I", false)
  | 12 => ("ArguedFerryModel", "value", "I", false)
  | 13 => ("ArguedFerryModel", "ended", "I", false)
  | 14 => ("ArguedFerryModel", "key", "I", false)
  | 15 => ("ArguedFerryModel", "keys", "[C", true)
  | 16 => ("ArguedFerryModel", "keyAt", "[I", true)
  | 17 => ("ArguedFerryModel", "code", "[I", true)
  | 18 => ("ArguedFerryModel", "codes", "I", false)
  | 19 => ("ArguedFerryModel", "atoms", "I", false)
  | 20 => ("ArguedFerryModel", "waits", "[I", true)
  | 21 => ("ArguedFerryModel", "held", "I", false)
  | 22 => ("ArguedFerryModel", "tested", "[Z", true)
  | 23 => ("ArguedFerryModel", "stack", "[I", true)
  | 24 => ("ArguedFerryModel", "facts", "[I", true)
  | 25 => ("ArguedFerryModel", "sorts", "[I", true)
  | 26 => ("ArguedFerryModel", "sizes", "[I", true)
  | 27 => ("ArguedFerryModel", "cells", "[I", true)
  | 28 => ("ArguedFerryModel", "holds", "[I", true)
  | 29 => ("ArguedFerryModel", "holdsA", "[I", true)
  | 30 => ("ArguedFerryModel", "holdsB", "[I", true)
  | 31 => ("ArguedFerryModel", "heldCells", "[I", true)
  | 32 => ("ArguedFerryModel", "moved", "[I", true)
  | 33 => ("ArguedFerryModel", "tells", "[I", true)
  | _ => ("ArguedFerryModel", "waiting", "I", false)
def tyX12 : Nat → FieldType := fun k => match k with
  | 0 => .array .int
  | 1 => .array .int
  | 2 => .array .int
  | 3 => .boolean
  | 4 => .array .int
  | 5 => .array .boolean
  | 6 => .array .int
  | 7 => .array .int
  | 8 => .int
  | 9 => .int
  | 10 => .int
  | 11 => .int
  | 12 => .int
  | 13 => .int
  | 14 => .int
  | 15 => .array .char
  | 16 => .array .int
  | 17 => .array .int
  | 18 => .int
  | 19 => .int
  | 20 => .array .int
  | 21 => .int
  | 22 => .array .boolean
  | 23 => .array .int
  | 24 => .array .int
  | 25 => .array .int
  | 26 => .array .int
  | 27 => .array .int
  | 28 => .array .int
  | 29 => .array .int
  | 30 => .array .int
  | 31 => .array .int
  | 32 => .array .int
  | 33 => .array .int
  | _ => .int
abbrev wsX120 : List Cond := u_ws RX12 TX12 35
theorem nmX12 : ∀ a, a < 35 → ∀ b, b < 35 → a ≠ b → (TX12 a).2.1 ≠ (TX12 b).2.1 := by decide +kernel
theorem tyX12_ok : ∀ k, k < 35 → parseFieldDescriptor (TX12 k).2.2.1 = some (tyX12 k) := by decide +kernel
abbrev cX12_init : ByteArray := prog_14_method_1_code
def yX12_init : MethodName := ⟨RX12, "<init>", "()V"⟩
abbrev cX12_in : ByteArray := prog_14_method_2_code
def yX12_in : MethodName := ⟨RX12, "in", "(III)Z"⟩
abbrev cX12_within : ByteArray := prog_14_method_3_code
def yX12_within : MethodName := ⟨RX12, "within", "(III)I"⟩
abbrev cX12_copyAll : ByteArray := prog_14_method_4_code
def yX12_copyAll : MethodName := ⟨RX12, "copyAll", "([I[I)V"⟩
abbrev cX12_isOne : ByteArray := prog_14_method_5_code
def yX12_isOne : MethodName := ⟨RX12, "isOne", "(I)Z"⟩
abbrev cX12_isMatter : ByteArray := prog_14_method_6_code
def yX12_isMatter : MethodName := ⟨RX12, "isMatter", "(I)Z"⟩
abbrev cX12_of : ByteArray := prog_14_method_7_code
def yX12_of : MethodName := ⟨RX12, "of", "(II)I"⟩
abbrev cX12_put : ByteArray := prog_14_method_8_code
def yX12_put : MethodName := ⟨RX12, "put", "(III)V"⟩
abbrev cX12_swaps : ByteArray := prog_14_method_9_code
def yX12_swaps : MethodName := ⟨RX12, "swaps", "(II)I"⟩
abbrev cX12_apart : ByteArray := prog_14_method_10_code
def yX12_apart : MethodName := ⟨RX12, "apart", "(III)I"⟩
abbrev cX12_speaks : ByteArray := prog_14_method_11_code
def yX12_speaks : MethodName := ⟨RX12, "speaks", "(III)I"⟩
abbrev cX12_heats : ByteArray := prog_14_method_12_code
def yX12_heats : MethodName := ⟨RX12, "heats", "(III)I"⟩
abbrev cX12_shifts : ByteArray := prog_14_method_13_code
def yX12_shifts : MethodName := ⟨RX12, "shifts", "(III)I"⟩
abbrev cX12_worthOf : ByteArray := prog_14_method_14_code
def yX12_worthOf : MethodName := ⟨RX12, "worthOf", "(I)I"⟩
abbrev cX12_comes : ByteArray := prog_14_method_15_code
def yX12_comes : MethodName := ⟨RX12, "comes", "(II)I"⟩
abbrev cX12_one : ByteArray := prog_14_method_16_code
def yX12_one : MethodName := ⟨RX12, "one", "(II)I"⟩
abbrev cX12_told : ByteArray := prog_14_method_17_code
def yX12_told : MethodName := ⟨RX12, "told", "(II)I"⟩
abbrev cX12_view : ByteArray := prog_14_method_18_code
def yX12_view : MethodName := ⟨RX12, "view", "(II)I"⟩
abbrev cX12_believes : ByteArray := prog_14_method_19_code
def yX12_believes : MethodName := ⟨RX12, "believes", "(III)I"⟩
abbrev cX12_isUnder : ByteArray := prog_14_method_20_code
def yX12_isUnder : MethodName := ⟨RX12, "isUnder", "(II)Z"⟩
abbrev cX12_as : ByteArray := prog_14_method_21_code
def yX12_as : MethodName := ⟨RX12, "as", "(II)I"⟩
abbrev cX12_turns : ByteArray := prog_14_method_22_code
def yX12_turns : MethodName := ⟨RX12, "turns", "(II)I"⟩
abbrev cX12_set : ByteArray := prog_14_method_23_code
def yX12_set : MethodName := ⟨RX12, "set", "(III)I"⟩
abbrev cX12_rule : ByteArray := prog_14_method_24_code
def yX12_rule : MethodName := ⟨RX12, "rule", "(II)I"⟩
abbrev cX12_draw : ByteArray := prog_14_method_25_code
def yX12_draw : MethodName := ⟨RX12, "draw", "()I"⟩
abbrev cX12_deal : ByteArray := prog_14_method_26_code
def yX12_deal : MethodName := ⟨RX12, "deal", "(I)I"⟩
abbrev cX12_seed : ByteArray := prog_14_method_27_code
def yX12_seed : MethodName := ⟨RX12, "seed", "(I)I"⟩
abbrev cX12_boat : ByteArray := prog_14_method_28_code
def yX12_boat : MethodName := ⟨RX12, "boat", "(I)I"⟩
abbrev cX12_areTwo : ByteArray := prog_14_method_29_code
def yX12_areTwo : MethodName := ⟨RX12, "areTwo", "(II)Z"⟩
abbrev cX12_argues : ByteArray := prog_14_method_30_code
def yX12_argues : MethodName := ⟨RX12, "argues", "(IIII)I"⟩
abbrev cX12_nextAt : ByteArray := prog_14_method_31_code
def yX12_nextAt : MethodName := ⟨RX12, "nextAt", "(II)I"⟩
abbrev cX12_goAboard : ByteArray := prog_14_method_32_code
def yX12_goAboard : MethodName := ⟨RX12, "goAboard", "(II)V"⟩
abbrev cX12_waits : ByteArray := prog_14_method_33_code
def yX12_waits : MethodName := ⟨RX12, "waits", "()V"⟩
abbrev cX12_comesTo : ByteArray := prog_14_method_34_code
def yX12_comesTo : MethodName := ⟨RX12, "comesTo", "(I)V"⟩
abbrev cX12_quarrel : ByteArray := prog_14_method_35_code
def yX12_quarrel : MethodName := ⟨RX12, "quarrel", "(II)V"⟩
abbrev cX12_minute : ByteArray := prog_14_method_36_code
def yX12_minute : MethodName := ⟨RX12, "minute", "()V"⟩
abbrev cX12_goesOn : ByteArray := prog_14_method_37_code
def yX12_goesOn : MethodName := ⟨RX12, "goesOn", "(I)V"⟩
abbrev cX12_across : ByteArray := prog_14_method_38_code
def yX12_across : MethodName := ⟨RX12, "across", "()I"⟩
abbrev cX12_tempers : ByteArray := prog_14_method_39_code
def yX12_tempers : MethodName := ⟨RX12, "tempers", "()I"⟩
abbrev cX12_minutes : ByteArray := prog_14_method_40_code
def yX12_minutes : MethodName := ⟨RX12, "minutes", "(I)I"⟩
abbrev cX12_ferry : ByteArray := prog_14_method_41_code
def yX12_ferry : MethodName := ⟨RX12, "ferry", "(I)I"⟩
abbrev cX12_thinks : ByteArray := prog_14_method_42_code
def yX12_thinks : MethodName := ⟨RX12, "thinks", "()V"⟩
abbrev cX12_putsBack : ByteArray := prog_14_method_43_code
def yX12_putsBack : MethodName := ⟨RX12, "putsBack", "()V"⟩
abbrev cX12_overIn : ByteArray := prog_14_method_44_code
def yX12_overIn : MethodName := ⟨RX12, "overIn", "(III)I"⟩
abbrev cX12_over : ByteArray := prog_14_method_45_code
def yX12_over : MethodName := ⟨RX12, "over", "(III)I"⟩
abbrev cX12_soonest : ByteArray := prog_14_method_46_code
def yX12_soonest : MethodName := ⟨RX12, "soonest", "(III)I"⟩
abbrev cX12_settles : ByteArray := prog_14_method_47_code
def yX12_settles : MethodName := ⟨RX12, "settles", "(III)I"⟩
abbrev cX12_pairsOf : ByteArray := prog_14_method_48_code
def yX12_pairsOf : MethodName := ⟨RX12, "pairsOf", "(I)I"⟩
abbrev cX12_pairs : ByteArray := prog_14_method_49_code
def yX12_pairs : MethodName := ⟨RX12, "pairs", "(I)I"⟩
abbrev cX12_behind : ByteArray := prog_14_method_50_code
def yX12_behind : MethodName := ⟨RX12, "behind", "(II)I"⟩
abbrev cX12_lands : ByteArray := prog_14_method_51_code
def yX12_lands : MethodName := ⟨RX12, "lands", "(I)I"⟩
abbrev cX12_crossedBy : ByteArray := prog_14_method_52_code
def yX12_crossedBy : MethodName := ⟨RX12, "crossedBy", "(I)I"⟩
abbrev cX12_calm : ByteArray := prog_14_method_53_code
def yX12_calm : MethodName := ⟨RX12, "calm", "(II)I"⟩
abbrev cX12_becomes : ByteArray := prog_14_method_54_code
def yX12_becomes : MethodName := ⟨RX12, "becomes", "(III)I"⟩
abbrev cX12_like : ByteArray := prog_14_method_55_code
def yX12_like : MethodName := ⟨RX12, "like", "(II)I"⟩
abbrev cX12_fee : ByteArray := prog_14_method_56_code
def yX12_fee : MethodName := ⟨RX12, "fee", "()I"⟩
abbrev cX12_fine : ByteArray := prog_14_method_57_code
def yX12_fine : MethodName := ⟨RX12, "fine", "(I)I"⟩
abbrev cX12_feed : ByteArray := prog_14_method_58_code
def yX12_feed : MethodName := ⟨RX12, "feed", "(III)I"⟩
abbrev cX12_trim : ByteArray := prog_14_method_59_code
def yX12_trim : MethodName := ⟨RX12, "trim", "(I)I"⟩
abbrev cX12_isLetter : ByteArray := prog_14_method_60_code
def yX12_isLetter : MethodName := ⟨RX12, "isLetter", "(I)Z"⟩
abbrev cX12_isFigure : ByteArray := prog_14_method_61_code
def yX12_isFigure : MethodName := ⟨RX12, "isFigure", "(I)Z"⟩
abbrev cX12_go : ByteArray := prog_14_method_62_code
def yX12_go : MethodName := ⟨RX12, "go", "()V"⟩
abbrev cX12_takesKey : ByteArray := prog_14_method_63_code
def yX12_takesKey : MethodName := ⟨RX12, "takesKey", "()Z"⟩
abbrev cX12_nameOf : ByteArray := prog_14_method_64_code
def yX12_nameOf : MethodName := ⟨RX12, "nameOf", "(I)I"⟩
abbrev cX12_rank : ByteArray := prog_14_method_65_code
def yX12_rank : MethodName := ⟨RX12, "rank", "(I)I"⟩
abbrev cX12_settle : ByteArray := prog_14_method_66_code
def yX12_settle : MethodName := ⟨RX12, "settle", "(I)V"⟩
abbrev cX12_signHere : ByteArray := prog_14_method_67_code
def yX12_signHere : MethodName := ⟨RX12, "signHere", "()I"⟩
abbrev cX12_takesPart : ByteArray := prog_14_method_68_code
def yX12_takesPart : MethodName := ⟨RX12, "takesPart", "()Z"⟩
abbrev cX12_takesE : ByteArray := prog_14_method_69_code
def yX12_takesE : MethodName := ⟨RX12, "takesE", "()Z"⟩
abbrev cX12_notsOpen : ByteArray := prog_14_method_70_code
def yX12_notsOpen : MethodName := ⟨RX12, "notsOpen", "()I"⟩
abbrev cX12_text : ByteArray := prog_14_method_71_code
def yX12_text : MethodName := ⟨RX12, "text", "()I"⟩
abbrev cX12_textTold : ByteArray := prog_14_method_72_code
def yX12_textTold : MethodName := ⟨RX12, "textTold", "(II)I"⟩
abbrev cX12_counts : ByteArray := prog_14_method_73_code
def yX12_counts : MethodName := ⟨RX12, "counts", "(I)I"⟩
abbrev cX12_why : ByteArray := prog_14_method_74_code
def yX12_why : MethodName := ⟨RX12, "why", "(I)I"⟩
abbrev cX12_two : ByteArray := prog_14_method_75_code
def yX12_two : MethodName := ⟨RX12, "two", "(III)I"⟩
abbrev cX12_worksOut : ByteArray := prog_14_method_76_code
def yX12_worksOut : MethodName := ⟨RX12, "worksOut", "(I)I"⟩
abbrev cX12_isSheet : ByteArray := prog_14_method_77_code
def yX12_isSheet : MethodName := ⟨RX12, "isSheet", "(I)Z"⟩
abbrev cX12_isSlot : ByteArray := prog_14_method_78_code
def yX12_isSlot : MethodName := ⟨RX12, "isSlot", "(I)Z"⟩
abbrev cX12_sheet : ByteArray := prog_14_method_79_code
def yX12_sheet : MethodName := ⟨RX12, "sheet", "(III)I"⟩
abbrev cX12_mark : ByteArray := prog_14_method_80_code
def yX12_mark : MethodName := ⟨RX12, "mark", "(III)I"⟩
abbrev cX12_pour : ByteArray := prog_14_method_81_code
def yX12_pour : MethodName := ⟨RX12, "pour", "(I)I"⟩
abbrev cX12_reads : ByteArray := prog_14_method_82_code
def yX12_reads : MethodName := ⟨RX12, "reads", "(I)I"⟩
abbrev cX12_copy : ByteArray := prog_14_method_83_code
def yX12_copy : MethodName := ⟨RX12, "copy", "(IIIII)I"⟩
abbrev cX12_lay : ByteArray := prog_14_method_84_code
def yX12_lay : MethodName := ⟨RX12, "lay", "(III)I"⟩
abbrev cX12_ask : ByteArray := prog_14_method_85_code
def yX12_ask : MethodName := ⟨RX12, "ask", "(II)I"⟩
abbrev cX12_item : ByteArray := prog_14_method_86_code
def yX12_item : MethodName := ⟨RX12, "item", "(II)I"⟩
abbrev cX12_rest : ByteArray := prog_14_method_87_code
def yX12_rest : MethodName := ⟨RX12, "rest", "(II)I"⟩
abbrev cX12_tell : ByteArray := prog_14_method_88_code
def yX12_tell : MethodName := ⟨RX12, "tell", "(I)I"⟩
abbrev cX12_check : ByteArray := prog_14_method_89_code
def yX12_check : MethodName := ⟨RX12, "check", "(I)I"⟩
abbrev cX12_keep : ByteArray := prog_14_method_90_code
def yX12_keep : MethodName := ⟨RX12, "keep", "()I"⟩
abbrev cX12_back : ByteArray := prog_14_method_91_code
def yX12_back : MethodName := ⟨RX12, "back", "()I"⟩
abbrev cX12_count : ByteArray := prog_14_method_92_code
def yX12_count : MethodName := ⟨RX12, "count", "(I)I"⟩
def RJx145de : String := "java/io/Serializable"
def TJx145de : u_T := fun k => match k with
  | _ => ("", "", "", false)
def tyJx145de : Nat → FieldType := fun k => match k with
  | _ => .int
theorem nmJx145de : ∀ a, a < 0 → ∀ b, b < 0 → a ≠ b → (TJx145de a).2.1 ≠ (TJx145de b).2.1 := by decide +kernel
theorem tyJx145de_ok : ∀ k, k < 0 → parseFieldDescriptor (TJx145de k).2.2.1 = some (tyJx145de k) := by decide +kernel
def RJx9f9b0 : String := "java/lang/CharSequence"
def TJx9f9b0 : u_T := fun k => match k with
  | _ => ("", "", "", false)
def tyJx9f9b0 : Nat → FieldType := fun k => match k with
  | _ => .int
theorem nmJx9f9b0 : ∀ a, a < 0 → ∀ b, b < 0 → a ≠ b → (TJx9f9b0 a).2.1 ≠ (TJx9f9b0 b).2.1 := by decide +kernel
theorem tyJx9f9b0_ok : ∀ k, k < 0 → parseFieldDescriptor (TJx9f9b0 k).2.2.1 = some (tyJx9f9b0 k) := by decide +kernel
def RJ11 : String := "java/lang/Character"
def TJ11 : u_T := fun k => match k with
  | _ => ("", "", "", false)
def tyJ11 : Nat → FieldType := fun k => match k with
  | _ => .int
abbrev wsJ110 : List Cond := u_ws RJ11 TJ11 0
theorem nmJ11 : ∀ a, a < 0 → ∀ b, b < 0 → a ≠ b → (TJ11 a).2.1 ≠ (TJ11 b).2.1 := by decide +kernel
theorem tyJ11_ok : ∀ k, k < 0 → parseFieldDescriptor (TJ11 k).2.2.1 = some (tyJ11 k) := by decide +kernel
abbrev cJ11_isValidCodePoint_9a6ad : ByteArray := prog_15_method_11_code
def yJ11_isValidCodePoint_9a6ad : MethodName := ⟨RJ11, "isValidCodePoint", "(I)Z"⟩
abbrev cJ11_highSurrogate_5068e : ByteArray := prog_15_method_28_code
def yJ11_highSurrogate_5068e : MethodName := ⟨RJ11, "highSurrogate", "(I)C"⟩
abbrev cJ11_lowSurrogate_5068e : ByteArray := prog_15_method_29_code
def yJ11_lowSurrogate_5068e : MethodName := ⟨RJ11, "lowSurrogate", "(I)C"⟩
def RJxb160c : String := "java/lang/Comparable"
def TJxb160c : u_T := fun k => match k with
  | _ => ("", "", "", false)
def tyJxb160c : Nat → FieldType := fun k => match k with
  | _ => .int
theorem nmJxb160c : ∀ a, a < 0 → ∀ b, b < 0 → a ≠ b → (TJxb160c a).2.1 ≠ (TJxb160c b).2.1 := by decide +kernel
theorem tyJxb160c_ok : ∀ k, k < 0 → parseFieldDescriptor (TJxb160c k).2.2.1 = some (tyJxb160c k) := by decide +kernel
def RJ6 : String := "java/lang/Integer"
def TJ6 : u_T := fun k => match k with
  | _ => ("", "", "", false)
def tyJ6 : Nat → FieldType := fun k => match k with
  | _ => .int
abbrev wsJ60 : List Cond := u_ws RJ6 TJ6 0
theorem nmJ6 : ∀ a, a < 0 → ∀ b, b < 0 → a ≠ b → (TJ6 a).2.1 ≠ (TJ6 b).2.1 := by decide +kernel
theorem tyJ6_ok : ∀ k, k < 0 → parseFieldDescriptor (TJ6 k).2.2.1 = some (tyJ6 k) := by decide +kernel
abbrev cJ6_numberOfTrailingZeros_0f7a4 : ByteArray := prog_16_method_48_code
def yJ6_numberOfTrailingZeros_0f7a4 : MethodName := ⟨RJ6, "numberOfTrailingZeros", "(I)I"⟩
def RJ9 : String := "java/lang/Math"
def TJ9 : u_T := fun k => match k with
  | _ => ("", "", "", false)
def tyJ9 : Nat → FieldType := fun k => match k with
  | _ => .int
abbrev wsJ90 : List Cond := u_ws RJ9 TJ9 0
theorem nmJ9 : ∀ a, a < 0 → ∀ b, b < 0 → a ≠ b → (TJ9 a).2.1 ≠ (TJ9 b).2.1 := by decide +kernel
theorem tyJ9_ok : ∀ k, k < 0 → parseFieldDescriptor (TJ9 k).2.2.1 = some (tyJ9 k) := by decide +kernel
abbrev cJ9_abs_0f7a4 : ByteArray := prog_17_method_59_code
def yJ9_abs_0f7a4 : MethodName := ⟨RJ9, "abs", "(I)I"⟩
abbrev cJ9_max_7cf53 : ByteArray := prog_17_method_65_code
def yJ9_max_7cf53 : MethodName := ⟨RJ9, "max", "(II)I"⟩
abbrev cJ9_min_7cf53 : ByteArray := prog_17_method_69_code
def yJ9_min_7cf53 : MethodName := ⟨RJ9, "min", "(II)I"⟩
def RJ0 : String := "java/lang/String"
def TJ0 : u_T := fun k => match k with
  | _ => ("", "", "", false)
def tyJ0 : Nat → FieldType := fun k => match k with
  | _ => .int
abbrev wsJ00 : List Cond := u_ws RJ0 TJ0 0
theorem nmJ0 : ∀ a, a < 0 → ∀ b, b < 0 → a ≠ b → (TJ0 a).2.1 ≠ (TJ0 b).2.1 := by decide +kernel
theorem tyJ0_ok : ∀ k, k < 0 → parseFieldDescriptor (TJ0 k).2.2.1 = some (tyJ0 k) := by decide +kernel
abbrev cJ0_length_8abf5 : ByteArray := prog_18_method_54_code
def yJ0_length_8abf5 : MethodName := ⟨RJ0, "length", "()I"⟩
abbrev cJ0_charAt_5068e : ByteArray := prog_18_method_56_code
def yJ0_charAt_5068e : MethodName := ⟨RJ0, "charAt", "(I)C"⟩
abbrev cJ0_indexOf_0f7a4 : ByteArray := prog_18_method_79_code
def yJ0_indexOf_0f7a4 : MethodName := ⟨RJ0, "indexOf", "(I)I"⟩
abbrev cJ0_indexOf_7cf53 : ByteArray := prog_18_method_80_code
def yJ0_indexOf_7cf53 : MethodName := ⟨RJ0, "indexOf", "(II)I"⟩
abbrev cJ0_coder_7d493 : ByteArray := prog_18_method_152_code
def yJ0_coder_7d493 : MethodName := ⟨RJ0, "coder", "()B"⟩
abbrev cJ0_isLatin1_aae02 : ByteArray := prog_18_method_154_code
def yJ0_isLatin1_aae02 : MethodName := ⟨RJ0, "isLatin1", "()Z"⟩
abbrev cJ0_checkIndex_df160 : ByteArray := prog_18_method_155_code
def yJ0_checkIndex_df160 : MethodName := ⟨RJ0, "checkIndex", "(II)V"⟩
abbrev cJ0_checkBoundsBeginEnd_23922 : ByteArray := prog_18_method_158_code
def yJ0_checkBoundsBeginEnd_23922 : MethodName := ⟨RJ0, "checkBoundsBeginEnd", "(III)V"⟩
def RJ1 : String := "java/lang/StringLatin1"
def TJ1 : u_T := fun k => match k with
  | _ => ("", "", "", false)
def tyJ1 : Nat → FieldType := fun k => match k with
  | _ => .int
abbrev wsJ10 : List Cond := u_ws RJ1 TJ1 0
theorem nmJ1 : ∀ a, a < 0 → ∀ b, b < 0 → a ≠ b → (TJ1 a).2.1 ≠ (TJ1 b).2.1 := by decide +kernel
theorem tyJ1_ok : ∀ k, k < 0 → parseFieldDescriptor (TJ1 k).2.2.1 = some (tyJ1 k) := by decide +kernel
abbrev cJ1_charAt_3b067 : ByteArray := prog_19_method_2_code
def yJ1_charAt_3b067 : MethodName := ⟨RJ1, "charAt", "([BI)C"⟩
abbrev cJ1_canEncode_9a6ad : ByteArray := prog_19_method_4_code
def yJ1_canEncode_9a6ad : MethodName := ⟨RJ1, "canEncode", "(I)Z"⟩
abbrev cJ1_indexOf_4cfef : ByteArray := prog_19_method_22_code
def yJ1_indexOf_4cfef : MethodName := ⟨RJ1, "indexOf", "([BIII)I"⟩
abbrev cJ1_indexOfChar_4cfef : ByteArray := prog_19_method_23_code
def yJ1_indexOfChar_4cfef : MethodName := ⟨RJ1, "indexOfChar", "([BIII)I"⟩
def RJ2 : String := "java/lang/StringUTF16"
def TJ2 : u_T := fun k => match k with
  | _ => ("", "", "", false)
def tyJ2 : Nat → FieldType := fun k => match k with
  | _ => .int
abbrev wsJ20 : List Cond := u_ws RJ2 TJ2 0
theorem nmJ2 : ∀ a, a < 0 → ∀ b, b < 0 → a ≠ b → (TJ2 a).2.1 ≠ (TJ2 b).2.1 := by decide +kernel
theorem tyJ2_ok : ∀ k, k < 0 → parseFieldDescriptor (TJ2 k).2.2.1 = some (tyJ2 k) := by decide +kernel
abbrev cJ2_getChar_3b067 : ByteArray := prog_20_method_5_code
def yJ2_getChar_3b067 : MethodName := ⟨RJ2, "getChar", "([BI)C"⟩
abbrev cJ2_length_9d52b : ByteArray := prog_20_method_6_code
def yJ2_length_9d52b : MethodName := ⟨RJ2, "length", "([B)I"⟩
abbrev cJ2_indexOf_4cfef : ByteArray := prog_20_method_40_code
def yJ2_indexOf_4cfef : MethodName := ⟨RJ2, "indexOf", "([BIII)I"⟩
abbrev cJ2_indexOfChar_4cfef : ByteArray := prog_20_method_47_code
def yJ2_indexOfChar_4cfef : MethodName := ⟨RJ2, "indexOfChar", "([BIII)I"⟩
abbrev cJ2_indexOfCharUnsafe_4cfef : ByteArray := prog_20_method_48_code
def yJ2_indexOfCharUnsafe_4cfef : MethodName := ⟨RJ2, "indexOfCharUnsafe", "([BIII)I"⟩
abbrev cJ2_indexOfSupplementary_4cfef : ByteArray := prog_20_method_49_code
def yJ2_indexOfSupplementary_4cfef : MethodName := ⟨RJ2, "indexOfSupplementary", "([BIII)I"⟩
abbrev cJ2_charAt_3b067 : ByteArray := prog_20_method_83_code
def yJ2_charAt_3b067 : MethodName := ⟨RJ2, "charAt", "([BI)C"⟩
abbrev cJ2_checkIndex_2214a : ByteArray := prog_20_method_91_code
def yJ2_checkIndex_2214a : MethodName := ⟨RJ2, "checkIndex", "(I[B)V"⟩
abbrev cJ2_checkBoundsBeginEnd_d044e : ByteArray := prog_20_method_93_code
def yJ2_checkBoundsBeginEnd_d044e : MethodName := ⟨RJ2, "checkBoundsBeginEnd", "(II[B)V"⟩
def RJ10 : String := "java/lang/System"
def TJ10 : u_T := fun k => match k with
  | _ => ("", "", "", false)
def tyJ10 : Nat → FieldType := fun k => match k with
  | _ => .int
abbrev wsJ100 : List Cond := u_ws RJ10 TJ10 0
theorem nmJ10 : ∀ a, a < 0 → ∀ b, b < 0 → a ≠ b → (TJ10 a).2.1 ≠ (TJ10 b).2.1 := by decide +kernel
theorem tyJ10_ok : ∀ k, k < 0 → parseFieldDescriptor (TJ10 k).2.2.1 = some (tyJ10 k) := by decide +kernel
def RJxfd54e : String := "java/lang/constant/Constable"
def TJxfd54e : u_T := fun k => match k with
  | _ => ("", "", "", false)
def tyJxfd54e : Nat → FieldType := fun k => match k with
  | _ => .int
theorem nmJxfd54e : ∀ a, a < 0 → ∀ b, b < 0 → a ≠ b → (TJxfd54e a).2.1 ≠ (TJxfd54e b).2.1 := by decide +kernel
theorem tyJxfd54e_ok : ∀ k, k < 0 → parseFieldDescriptor (TJxfd54e k).2.2.1 = some (tyJxfd54e k) := by decide +kernel
def RJx3cf43 : String := "java/lang/constant/ConstantDesc"
def TJx3cf43 : u_T := fun k => match k with
  | _ => ("", "", "", false)
def tyJx3cf43 : Nat → FieldType := fun k => match k with
  | _ => .int
theorem nmJx3cf43 : ∀ a, a < 0 → ∀ b, b < 0 → a ≠ b → (TJx3cf43 a).2.1 ≠ (TJx3cf43 b).2.1 := by decide +kernel
theorem tyJx3cf43_ok : ∀ k, k < 0 → parseFieldDescriptor (TJx3cf43 k).2.2.1 = some (tyJx3cf43 k) := by decide +kernel
def RJ7 : String := "java/util/Arrays"
def TJ7 : u_T := fun k => match k with
  | _ => ("", "", "", false)
def tyJ7 : Nat → FieldType := fun k => match k with
  | _ => .int
abbrev wsJ70 : List Cond := u_ws RJ7 TJ7 0
theorem nmJ7 : ∀ a, a < 0 → ∀ b, b < 0 → a ≠ b → (TJ7 a).2.1 ≠ (TJ7 b).2.1 := by decide +kernel
theorem tyJ7_ok : ∀ k, k < 0 → parseFieldDescriptor (TJ7 k).2.2.1 = some (tyJ7 k) := by decide +kernel
abbrev cJ7_fill_53178 : ByteArray := prog_22_method_103_code
def yJ7_fill_53178 : MethodName := ⟨RJ7, "fill", "([II)V"⟩
def RJ3 : String := "jdk/internal/util/Preconditions"
def TJ3 : u_T := fun k => match k with
  | _ => ("", "", "", false)
def tyJ3 : Nat → FieldType := fun k => match k with
  | _ => .int
abbrev wsJ30 : List Cond := u_ws RJ3 TJ3 0
theorem nmJ3 : ∀ a, a < 0 → ∀ b, b < 0 → a ≠ b → (TJ3 a).2.1 ≠ (TJ3 b).2.1 := by decide +kernel
theorem tyJ3_ok : ∀ k, k < 0 → parseFieldDescriptor (TJ3 k).2.2.1 = some (tyJ3 k) := by decide +kernel
abbrev cJ3_checkIndex_8e157 : ByteArray := prog_23_method_11_code
def yJ3_checkIndex_8e157 : MethodName := ⟨RJ3, "checkIndex", "(IILjava/util/function/BiFunction;)I"⟩
abbrev cJ3_checkFromToIndex_8c36e : ByteArray := prog_23_method_12_code
def yJ3_checkFromToIndex_8c36e : MethodName := ⟨RJ3, "checkFromToIndex", "(IIILjava/util/function/BiFunction;)I"⟩
def RL : String := "ArguedFerryLaw"
abbrev cL_law : ByteArray := code
def yL_law : MethodName := ⟨RL, "law", "([I)Z"⟩
abbrev vwCl : List vw_C := [(RX0, TX0, 0), (RX1, TX1, 0), (RX2, TX2, 0), (RX3, TX3, 0), (RX4, TX4, 4), (RX5, TX5, 3), (RX6, TX6, 0), (RX7, TX7, 6), (RX8, TX8, 6), (RX9, TX9, 0), (RX10, TX10, 14), (RX11, TX11, 17), (RX12, TX12, 35)]
end
section
/-! THE CORE: a frame of the machine over a heap that is a function of the place behind a base; rows an instruction; contracts. -/
abbrev HP : Type := Nat → va_E
abbrev LV : Type := List (Nat × Value)
abbrev Th : Type := Launch × va_G × (Nat → ClassId) × Nat × (State → Heap → Prop)
abbrev tL (Θ : Th) : Launch := Θ.1
abbrev tD (Θ : Th) : va_G := Θ.2.1
abbrev tk (Θ : Th) : Nat → ClassId := Θ.2.2.1
abbrev tb (Θ : Th) : Nat := Θ.2.2.2.1
abbrev tX (Θ : Th) : State → Heap → Prop := Θ.2.2.2.2
def tys (Θ : Th) : List (ClassId × FieldType) := [(tk Θ 0, .int), (tk Θ 1, .char), (tk Θ 2, .boolean), (tk Θ 3, .object RX3), (tk Θ 4, .object RX4), (tk Θ 5, .object RX5), (tk Θ 6, .object RX8)]
abbrev iA (Θ : Th) (t n : Nat) (f : Nat → Int32) : va_E := .inl (tk Θ t, n, .inl f)
abbrev rA (Θ : Th) (t n : Nat) (f : Nat → Option Nat) : va_E := .inl (tk Θ t, n, .inr (.inr (.inr (.inr f))))
abbrev oB (ci : Nat) (fs : List Value) : va_E := .inr (ci, fs)
def TG : List Cond := lw_tbl.filter goodWord
theorem TG_in {w : Cond} (h : w ∈ lw_tbl) (g : goodWord w = true) : w ∈ TG := List.mem_filter.mpr ⟨h, g⟩
theorem TG_good {w : Cond} (h : w ∈ TG) : w ∈ lw_tbl ∧ ((w.onTables && w.keeps) = true ∨ ∃ ty, w = .arrayClass ty) := ⟨(List.mem_filter.mp h).1, good_of_word (List.mem_filter.mp h).2⟩
def nestW : Cond → Bool
  | .fieldLinkNest .. => true
  | .methodLinkNest .. => true
  | .castable .. => true
  | _ => false
theorem nw_tab {w : Cond} (hw : nestW w = true) : w.onTables = true := by
  cases w <;> first | rfl | cases hw
theorem nw_warm {w : Cond} (hw : nestW w = true) {s U : State} (hW : s.WarmedH U.vm) (h : va_Nw w s) : va_Nw w U := by
  cases w <;> first | exact va_Nw.warmF hW h | exact va_Nw.warmM hW h | exact va_Nw.warmC hW h | cases hw
def aoL : List String := [RX3, RX4, RX5, RX8]
def Tw (U : State) : Prop := (∀ w ∈ lw_tbl, nestW w = true → va_Nw w U) ∧ ∀ C ∈ aoL, va_AO C U
theorem Tw.warm {s U : State} (hW : s.WarmedH U.vm) (h : Tw s) : Tw U := ⟨fun w a b => nw_warm b hW (h.1 w a b), fun C a => (h.2 C a).moved hW.alike⟩
theorem Tw.same {s U : State} (hv : s.vm = U.vm) (h : Tw s) : Tw U := ⟨fun w a b => va_Nw.same (nw_tab b) hv (h.1 w a b), fun C a => (h.2 C a).moved (hv ▸ Vm.Alike.refl s.vm)⟩
def OkX (Θ : Th) : Prop := (∀ (U : State) (H H1 : Heap), (∀ q : Nat, q < tb Θ → H1[q]? = H[q]?) → tX Θ U H → tX Θ U H1) ∧ ∀ (u U : State) (H : Heap), u.vm.Alike U.vm → tX Θ u H → tX Θ U H
def Uw (Θ : Th) (U : State) : Prop := va_K (tD Θ) vwCl (tys Θ) U ∧ Tw U ∧ OkX Θ
theorem Uw.warm {Θ : Th} {s U : State} (hW : s.WarmedH U.vm) (h : Uw Θ s) : Uw Θ U := ⟨va_K.moved hW.alike h.1, h.2.1.warm hW, h.2.2⟩
theorem Uw.same {Θ : Th} {s U : State} (hv : s.vm = U.vm) (h : Uw Θ s) : Uw Θ U := ⟨va_K.moved (hv ▸ Vm.Alike.refl s.vm) h.1, h.2.1.same hv, h.2.2⟩
/-! the cells as a list -/
def wl (b n : Nat) (G : HP) : va_W := (List.range n).map (fun k => (b + k, G k))
theorem wl_get {b n k : Nat} {G : HP} (h : k < n) : (wl b n G)[k]? = some (b + k, G k) := by simp [wl, h]
theorem wl_of {b n k : Nat} {G : HP} {q : Nat × va_E} (h : (wl b n G)[k]? = some q) : k < n ∧ q = (b + k, G k) := by
  by_cases hk : k < n
  · rw [wl_get hk] at h
    exact ⟨hk, (Option.some.inj h).symm⟩
  · simp [wl, hk] at h
theorem wl_at {b n k : Nat} {G : HP} {e : va_E} (h : k < n) (he : G k = e) : (wl b n G)[k]? = some (b + k, e) := by rw [wl_get h, he]
theorem wl_len {b n : Nat} {G : HP} : (wl b n G).length = n := by simp [wl]
theorem wl_ext {b n : Nat} {l : va_W} {G : HP} (hl : l.length = n) (h : ∀ k, k < n → l[k]? = some (b + k, G k)) : l = wl b n G := by
  apply List.ext_getElem?
  intro k
  by_cases hk : k < n
  · rw [h k hk, wl_get hk]
  · rw [List.getElem?_eq_none (by omega), List.getElem?_eq_none (by rw [wl_len]; omega)]
theorem wl_set {b n k : Nat} {G : HP} {e : va_E} (h : k < n) : (wl b n G).set k (b + k, e) = wl b n (va_up G k e) := by
  apply wl_ext
  · rw [List.length_set, wl_len]
  · intro j hj
    by_cases hjk : j = k
    · subst hjk
      rw [List.getElem?_set_self (by rw [wl_len]; exact h)]
      simp [va_up]
    · rw [List.getElem?_set_ne (Ne.symm hjk), wl_get hj]
      simp [va_up, hjk]
theorem wl_push {b n : Nat} {G : HP} {e : va_E} : wl b n G ++ [(b + n, e)] = wl b (n + 1) (va_up G n e) := by
  apply wl_ext
  · rw [List.length_append, wl_len]; rfl
  · intro j hj
    by_cases hjk : j = n
    · subst hjk
      rw [List.getElem?_append_right (by rw [wl_len]; exact Nat.le_refl _), wl_len, Nat.sub_self]
      simp [va_up]
    · rw [List.getElem?_append_left (by rw [wl_len]; omega), wl_get (by omega)]
      simp [va_up, hjk]
def AA (Θ : Th) : Nat → Prop := fun q => tb Θ ≤ q
theorem wl_D {Θ : Th} {n : Nat} {G : HP} : va_D (AA Θ) (wl (tb Θ) n G) := by
  refine ⟨fun i j p q hi hj e => ?_, fun k q hk => ?_⟩
  · obtain ⟨-, rfl⟩ := wl_of hi
    obtain ⟨-, rfl⟩ := wl_of hj
    simp only at e
    omega
  · obtain ⟨-, rfl⟩ := wl_of hk
    exact Nat.le_add_right _ _
def Hs (Θ : Th) (n : Nat) (G : HP) (H : Heap) : Prop := va_P (tD Θ) vwCl (wl (tb Θ) n G) H
/-! the locals: what is found first in a list -/
def lk : LV → Nat → Option Value
  | [], _ => none
  | (j, v) :: r, i => if j = i then some v else lk r i
def Lh (la : Array Slot) (nL : Nat) (ls : LV) : Prop := la.size = nL ∧ lv_wf la ∧ ∀ (i : Nat) (v : Value), lk ls i = some v → la[i]? = some (.val v) ∧ v.category = 1
def cn (nL : Nat) (ls : LV) : LV := (List.range nL).filterMap (fun j => (lk ls j).map (fun w => (j, w)))
theorem Lh.has {la : Array Slot} {nL : Nat} {ls : LV} (h : Lh la nL ls) : lv_has la nL (cn nL ls) := by
  refine ⟨h.1, h.2.1, fun q hq => ?_⟩
  obtain ⟨j, -, hj⟩ := List.mem_filterMap.mp hq
  cases hl : lk ls j with
  | none => rw [hl] at hj; cases hj
  | some w =>
    rw [hl] at hj
    cases hj
    exact (h.2.2 j w hl).1
theorem Lh.store {la la' : Array Slot} {nL : Nat} {ls : LV} {i : Nat} {v : Value} (h : Lh la nL ls) (hv : v.category = 1) (h' : lv_has la' nL ((i, v) :: (cn nL ls).filter (fun q => !(q.1 == i) && !(q.1 + 1 == i && q.2.category == 2)))) : Lh la' nL ((i, v) :: ls) := by
  refine ⟨h'.1, h'.2.1, fun j w hj => ?_⟩
  unfold lk at hj
  by_cases e : i = j
  · rw [if_pos e] at hj
    cases hj
    subst e
    exact ⟨h'.2.2 (i, v) List.mem_cons_self, hv⟩
  · rw [if_neg e] at hj
    obtain ⟨h1, h2⟩ := h.2.2 j w hj
    have hlt : j < nL := by rw [← h.1]; exact lv_lt h1
    refine ⟨h'.2.2 (j, w) (List.mem_cons_of_mem _ (List.mem_filter.mpr ⟨List.mem_filterMap.mpr ⟨j, List.mem_range.mpr hlt, by rw [hj]; rfl⟩, ?_⟩)), h2⟩
    simp [Ne.symm e, h2]
theorem Lh.to {la : Array Slot} {nL : Nat} {ls ls' : LV} (h : Lh la nL ls) (hs : ∀ (i : Nat) (v : Value), lk ls' i = some v → lk ls i = some v) : Lh la nL ls' := ⟨h.1, h.2.1, fun i v e => h.2.2 i v (hs i v e)⟩
def lsub : LV → LV → Prop
  | [], _ => True
  | (i, v) :: r, ls => lk ls i = some v ∧ lsub r ls
theorem lsub.to : ∀ {r ls : LV}, lsub r ls → ∀ (i : Nat) (v : Value), lk r i = some v → lk ls i = some v
  | [], _, _, _, _, e => by cases e
  | (j, w) :: r, ls, h, i, v, e => by
    unfold lk at e
    by_cases c : j = i
    · rw [if_pos c] at e
      cases e
      subst c
      exact h.1
    · rw [if_neg c] at e
      exact lsub.to h.2 i v e
end
section
/-! frames and contracts -/
def nr (ret : Option FieldType) (r : Int32) : Prop := match ret with
  | some ty => narrow ty (.int r) = .int r
  | none => False
def Rt (cc : ByteArray) (ret : Option FieldType) (pc : Nat) : Option Int32 → Prop
  | some r => decode cc pc = .ok (.ireturn, 1) ∧ nr ret r
  | none => decode cc pc = .ok (.return_, 1) ∧ ret = none
def rv : Option Int32 → List Value
  | some r => [.int r]
  | none => []
abbrev QT : Type := Option Int32 → HP → Prop
def Qi (f : Int32 → HP → Prop) : QT := fun v G => match v with
  | some r => f r G
  | none => False
def Qv (f : HP → Prop) : QT := fun v G => match v with
  | some _ => False
  | none => f G
def Ev (Θ : Th) (d mc ms : Nat) (y : MethodName) (cc : ByteArray) (nL : Nat) (ret : Option FieldType) (p : Program) (R : Room) (s : State) (m : MethodId) (args : Array Value) (meth : Method) (c : Code) : Prop :=
  p.tables.exec = Jvm.exec ∧ c.code = cc ∧ c.maxLocals = nL ∧ meth.sig.returnType = ret ∧ meth.locks = false ∧ s.vm.findClass y.cls = some m.cls ∧ (∀ w ∈ TG, w.before args s = true) ∧ Uw Θ s ∧ tX Θ s s.heap ∧ tb Θ ≤ s.heap.size ∧ (d ≤ R.frames ∧ 50 * d ≤ R.locals ∧ mc ≤ R.cells ∧ ms ≤ R.slots) ∧ (y.name = "<init>" → meth.name = "<init>")
/-- from here on the frame comes to its return with Q -/
def E (Θ : Th) (d mc ms : Nat) (y : MethodName) (cc : ByteArray) (nL : Nat) (ret : Option FieldType) (cl sl n : Nat) (G : HP) (pc : Nat) (ls : LV) (st : List Value) (Q : QT) : Prop :=
  cl ≤ mc → sl ≤ ms → ∀ (p : Program) (e : Env) (R : Room) (s : State) (m : MethodId) (args : Array Value) (below : List Frame) (meth : Method) (c : Code), Ev Θ d mc ms y cc nL ret p R s m args meth c → s.heap.size + cl = tb Θ + n →
  ∀ (H : Heap) (locs : List Loc) (la : Array Slot), Hs Θ n G H → va_S (AA Θ) s.heap H locs → Lh la nL ls → ∀ Z : State → Prop,
  (∀ (v : Option Int32) (n' : Nat) (G' : HP) (H' : Heap) (locs' : List Loc) (pc' : Nat) (la' : Array Slot), Q v G' → s.heap.size + mc = tb Θ + n' → Hs Θ n' G' H' → va_S (AA Θ) s.heap H' locs' → Rt cc ret pc' v → W p (tL Θ) e R s m args below meth c H' locs' mc ms Z (F0 m pc' la' (rv v))) →
  W p (tL Θ) e R s m args below meth c H locs cl sl Z (F0 m pc la st)
def Pr (Θ : Th) (n : Nat) (G : HP) (U : State) : Prop := U.heap.size = tb Θ + n ∧ Hs Θ n G U.heap ∧ Uw Θ U ∧ tX Θ U U.heap
def Qc (Θ : Th) (n : Nat) (Q : QT) : Array Value → State → Outcome → State → Prop := fun _ st o t => ∃ (v : Option Int32) (G' : HP), o = .returned (v.map Value.int) ∧ Q v G' ∧ Hs Θ n G' t.heap ∧ va_F (AA Θ) st t
def rmO (d mc ms : Nat) : Room := { frames := d, cells := mc, slots := ms, locals := 50 * d }
/-- a method's contract: called with av over the cells G, it returns with Q -/
def C (Θ : Th) (d mc ms : Nat) (y : MethodName) (cc : ByteArray) (nL : Nat) (ret : Option FieldType) (av : List Value) (n : Nat) (G : HP) (Q : QT) : Prop :=
  Met (tL Θ) y (Cond.code y cc nL ret :: TG) (rmO d mc ms) (va_Pc av (Pr Θ n G)) (Qc Θ (n + mc) Q) mc ms (AA Θ)
theorem Pr.blind {Θ : Th} {av : List Value} {n : Nat} {G : HP} : FrameBlind (va_Pc av (Pr Θ n G)) := by
  intro a U g mk h
  obtain ⟨h1, h0, h2, h3, h4⟩ := h
  exact ⟨h1, h0, h2, Uw.same (s := U) (U := U.calling g mk a) rfl h3, h3.2.2.2 U (U.calling g mk a) _ (Vm.Alike.refl U.vm) h4⟩
theorem E.mono {Θ : Th} {d mc ms : Nat} {y : MethodName} {cc : ByteArray} {nL : Nat} {ret : Option FieldType} {cl sl n : Nat} {G : HP} {pc : Nat} {ls : LV} {st : List Value} {Q Q' : QT} (h : ∀ v G, Q v G → Q' v G) (k : E Θ d mc ms y cc nL ret cl sl n G pc ls st Q) : E Θ d mc ms y cc nL ret cl sl n G pc ls st Q' :=
  fun a b p e R s m args below meth c hE hn H locs la hH hS hl Z hz => k a b p e R s m args below meth c hE hn H locs la hH hS hl Z (fun v n' G' H' locs' pc' la' q => hz v n' G' H' locs' pc' la' (h v G' q))
theorem E.loc {Θ : Th} {d mc ms : Nat} {y : MethodName} {cc : ByteArray} {nL : Nat} {ret : Option FieldType} {cl sl n : Nat} {G : HP} {pc : Nat} {ls ls' : LV} {st : List Value} {Q : QT} (h : lsub ls' ls) (k : E Θ d mc ms y cc nL ret cl sl n G pc ls' st Q) : E Θ d mc ms y cc nL ret cl sl n G pc ls st Q :=
  fun a b p e R s m args below meth c hE hn H locs la hH hS hl Z hz => k a b p e R s m args below meth c hE hn H locs la hH hS (hl.to h.to) Z hz
theorem Hs.congr {Θ : Th} {n : Nat} {G G' : HP} {H : Heap} (h : ∀ k, k < n → G k = G' k) (hH : Hs Θ n G H) : Hs Θ n G' H := by
  have e : wl (tb Θ) n G' = wl (tb Θ) n G := by
    symm
    apply wl_ext wl_len
    intro k hk
    rw [wl_get hk, h k hk]
  unfold Hs
  rw [e]
  exact hH
theorem E.heap {Θ : Th} {d mc ms : Nat} {y : MethodName} {cc : ByteArray} {nL : Nat} {ret : Option FieldType} {cl sl n : Nat} {G G' : HP} {pc : Nat} {ls : LV} {st : List Value} {Q : QT} (h : ∀ k, k < n → G k = G' k) (k : E Θ d mc ms y cc nL ret cl sl n G' pc ls st Q) : E Θ d mc ms y cc nL ret cl sl n G pc ls st Q :=
  fun a b p e R s m args below meth c hE hn H locs la hH hS hl Z hz => k a b p e R s m args below meth c hE hn H locs la (hH.congr h) hS hl Z hz
theorem lv_args_cat : ∀ (vs : List Value) (i : Nat), (∀ v ∈ vs, v.category = 1) → ∀ q ∈ lv_args i vs, q.2.category = 1
  | [], i, _, q, hq => by simp [lv_args] at hq
  | v :: vs, i, h, q, hq => by
    have hv := h v List.mem_cons_self
    simp only [lv_args, hv] at hq
    rcases List.mem_cons.mp hq with rfl | hq
    · exact hv
    · exact lv_args_cat vs _ (fun w hw => h w (List.mem_cons_of_mem _ hw)) q hq
theorem lk_mem : ∀ {ls : LV} {i : Nat} {v : Value}, lk ls i = some v → (i, v) ∈ ls
  | [], _, _, h => by cases h
  | (j, w) :: r, i, v, h => by
    unfold lk at h
    by_cases c : j = i
    · rw [if_pos c] at h
      cases h
      subst c
      exact List.mem_cons_self
    · rw [if_neg c] at h
      exact List.mem_cons_of_mem _ (lk_mem h)
theorem C_of {Θ : Th} {d mc ms : Nat} {y : MethodName} {cc : ByteArray} {nL : Nat} {ret : Option FieldType} {av : List Value} {n : Nat} {G : HP} {Q : QT} (hpl : plainName y.cls = true) (hca : av.all (fun v => v.category == 1) = true) (hnl : (lg_sl av).length ≤ nL) (h : E Θ d mc ms y cc nL ret 0 0 n G 0 (lv_args 0 av) [] Q) : C Θ d mc ms y cc nL ret av n G Q := by
  refine Met.ofW (cc := cc) (maxL := nL) (ret := ret) hpl rfl ?_
  intro p e s m args below meth c s₁ B hml hv
  obtain ⟨rfl, hz0, hH, hU, hX⟩ := hv
  have hts := atoms_spec (ws := Cond.code y cc nL ret :: TG) B.pre
  have hl := lv_entry av (n := nL) hnl
  rw [lg_entry_eq]
  have hb : tb Θ ≤ s.heap.size := by rw [hz0]; exact Nat.le_add_right _ _
  have hcat : ∀ v ∈ av, v.category = 1 := fun v hv => by simpa using List.all_eq_true.mp hca v hv
  refine h (Nat.zero_le _) (Nat.zero_le _) p e _ s m av.toArray below meth c ⟨B.exec, B.bytes, hml, B.returns, B.notSynchronized, findClass_of_methodNamed B.named, fun w hw => hts w (List.mem_cons_of_mem _ hw), hU, hX, hb, ⟨Nat.le_refl _, Nat.le_refl _, Nat.le_refl _, Nat.le_refl _⟩, fun hy => by rw [← hy]; exact (name_of_methodNamed B.named B.method).1⟩ hz0 s.heap [] _ hH va_S.rf ⟨hl.1, hl.2.1, fun i v e => ⟨hl.2.2 _ (lk_mem e), lv_args_cat av 0 hcat _ (lk_mem e)⟩⟩ _ ?_
  intro v n' G' H' locs' pc' la' hq hn' hH' hS' hR
  have en : n' = n + mc := by omega
  subst en
  cases v with
  | none =>
    exact W.vret B.exec B.bytes (by rw [B.returns]; exact hR.2) (fun t ht hW => ⟨none, G', rfl, hq, by rw [ht]; exact hH', hS'.F ht⟩) hS'.2.2 hR.1
  | some r =>
    cases hret : ret with
    | none => rw [hret] at hR; exact hR.2.elim
    | some ty =>
      rw [hret] at hR
      exact W.zret (v := r) (ty := ty) B.exec B.bytes (by rw [B.returns]; exact hret) hR.2 (fun t ht hW => ⟨some r, G', rfl, hq, by rw [ht]; exact hH', hS'.F ht⟩) hS'.2.2 hR.1
end
section
/-! decode rows with the next place, and the place of a jump -/
abbrev Dc (cc : ByteArray) (pc : Nat) (I : Instr) (len pc' : Nat) : Prop := decode cc pc = .ok (I, len) ∧ pc + len = pc'
abbrev Db (cc : ByteArray) (pc : Nat) (I : Instr) (off : Int) (pc' tgt : Nat) : Prop := decode cc pc = .ok (I, 3) ∧ pc + 3 = pc' ∧ (pc : Int) + off = (tgt : Int)
section Rows
variable {Θ : Th} {d mc ms : Nat} {y : MethodName} {cc : ByteArray} {nL : Nat} {ret : Option FieldType} {cl sl n : Nat} {G : HP} {pc pc' : Nat} {ls : LV} {st : List Value} {Q : QT}
theorem E_iconst {k : Int} (hd : Dc cc pc (.iconst k) 1 pc') (K : E Θ d mc ms y cc nL ret cl sl n G pc' ls (.int (Int32.ofInt k) :: st) Q) : E Θ d mc ms y cc nL ret cl sl n G pc ls st Q := by
  obtain ⟨hd, rfl⟩ := hd
  intro a b p e R s m args below meth c hE hn H locs la hH hS hl Z hz
  exact lv_iconst hE.1 hE.2.1 hd rfl (K a b p e R s m args below meth c hE hn H locs la hH hS hl Z hz)
theorem E_bipush {k : Int} {v : Int32} (hd : Dc cc pc (.bipush k) 2 pc') (hv : (Int8.ofInt k).toInt32 = v) (K : E Θ d mc ms y cc nL ret cl sl n G pc' ls (.int v :: st) Q) : E Θ d mc ms y cc nL ret cl sl n G pc ls st Q := by
  obtain ⟨hd, rfl⟩ := hd
  intro a b p e R s m args below meth c hE hn H locs la hH hS hl Z hz
  exact lv_bipush hE.1 hE.2.1 hd hv (K a b p e R s m args below meth c hE hn H locs la hH hS hl Z hz)
theorem E_sipush {k : Int} {v : Int32} (hd : Dc cc pc (.sipush k) 3 pc') (hv : (Int16.ofInt k).toInt32 = v) (K : E Θ d mc ms y cc nL ret cl sl n G pc' ls (.int v :: st) Q) : E Θ d mc ms y cc nL ret cl sl n G pc ls st Q := by
  obtain ⟨hd, rfl⟩ := hd
  intro a b p e R s m args below meth c hE hn H locs la hH hS hl Z hz
  exact lv_sipush hE.1 hE.2.1 hd hv (K a b p e R s m args below meth c hE hn H locs la hH hS hl Z hz)
theorem E_ldc {i : Nat} {v : Int32} (hd : Dc cc pc (.ldc i) 2 pc') (hw : Cond.constant y.cls i v ∈ TG) (K : E Θ d mc ms y cc nL ret cl sl n G pc' ls (.int v :: st) Q) : E Θ d mc ms y cc nL ret cl sl n G pc ls st Q := by
  obtain ⟨hd, rfl⟩ := hd
  intro a b p e R s m args below meth c hE hn H locs la hH hS hl Z hz
  exact lv_ldc hE.1 hE.2.1 hE.2.2.2.2.2.1 (hE.2.2.2.2.2.2.1 _ hw) hd (K a b p e R s m args below meth c hE hn H locs la hH hS hl Z hz)
theorem E_ldcw {i : Nat} {v : Int32} (hd : Dc cc pc (.ldc_w i) 3 pc') (hw : Cond.constant y.cls i v ∈ TG) (K : E Θ d mc ms y cc nL ret cl sl n G pc' ls (.int v :: st) Q) : E Θ d mc ms y cc nL ret cl sl n G pc ls st Q := by
  obtain ⟨hd, rfl⟩ := hd
  intro a b p e R s m args below meth c hE hn H locs la hH hS hl Z hz
  exact lv_ldcw hE.1 hE.2.1 hE.2.2.2.2.2.1 (hE.2.2.2.2.2.2.1 _ hw) hd (K a b p e R s m args below meth c hE hn H locs la hH hS hl Z hz)
theorem E_iload_n {k : Fin 4} {x : Int32} (hd : Dc cc pc (.iload_n k) 1 pc') (hk : lk ls k.val = some (.int x)) (K : E Θ d mc ms y cc nL ret cl sl n G pc' ls (.int x :: st) Q) : E Θ d mc ms y cc nL ret cl sl n G pc ls st Q := by
  obtain ⟨hd, rfl⟩ := hd
  intro a b p e R s m args below meth c hE hn H locs la hH hS hl Z hz
  exact lv_iload_n hE.1 hE.2.1 hd rfl (hl.2.2 _ _ hk).1 (K a b p e R s m args below meth c hE hn H locs la hH hS hl Z hz)
theorem E_iload {k : Nat} {x : Int32} (hd : Dc cc pc (.iload k) 2 pc') (hk : lk ls k = some (.int x)) (K : E Θ d mc ms y cc nL ret cl sl n G pc' ls (.int x :: st) Q) : E Θ d mc ms y cc nL ret cl sl n G pc ls st Q := by
  obtain ⟨hd, rfl⟩ := hd
  intro a b p e R s m args below meth c hE hn H locs la hH hS hl Z hz
  exact lv_iload hE.1 hE.2.1 hd (hl.2.2 _ _ hk).1 (K a b p e R s m args below meth c hE hn H locs la hH hS hl Z hz)
theorem E_aload_n {k : Fin 4} {x : Nat} (hd : Dc cc pc (.aload_n k) 1 pc') (hk : lk ls k.val = some (.ref x)) (K : E Θ d mc ms y cc nL ret cl sl n G pc' ls (.ref x :: st) Q) : E Θ d mc ms y cc nL ret cl sl n G pc ls st Q := by
  obtain ⟨hd, rfl⟩ := hd
  intro a b p e R s m args below meth c hE hn H locs la hH hS hl Z hz
  exact lv_aload_n hE.1 hE.2.1 hd rfl (hl.2.2 _ _ hk).1 (K a b p e R s m args below meth c hE hn H locs la hH hS hl Z hz)
theorem E_aload {k : Nat} {x : Nat} (hd : Dc cc pc (.aload k) 2 pc') (hk : lk ls k = some (.ref x)) (K : E Θ d mc ms y cc nL ret cl sl n G pc' ls (.ref x :: st) Q) : E Θ d mc ms y cc nL ret cl sl n G pc ls st Q := by
  obtain ⟨hd, rfl⟩ := hd
  intro a b p e R s m args below meth c hE hn H locs la hH hS hl Z hz
  exact lv_aload hE.1 hE.2.1 hd (hl.2.2 _ _ hk).1 (K a b p e R s m args below meth c hE hn H locs la hH hS hl Z hz)
theorem E_aload_nN {k : Fin 4} (hd : Dc cc pc (.aload_n k) 1 pc') (hk : lk ls k.val = some .null) (K : E Θ d mc ms y cc nL ret cl sl n G pc' ls (.null :: st) Q) : E Θ d mc ms y cc nL ret cl sl n G pc ls st Q := by
  obtain ⟨hd, rfl⟩ := hd
  intro a b p e R s m args below meth c hE hn H locs la hH hS hl Z hz
  exact lv_aload_nN hE.1 hE.2.1 hd rfl (hl.2.2 _ _ hk).1 (K a b p e R s m args below meth c hE hn H locs la hH hS hl Z hz)
theorem E_aloadN {k : Nat} (hd : Dc cc pc (.aload k) 2 pc') (hk : lk ls k = some .null) (K : E Θ d mc ms y cc nL ret cl sl n G pc' ls (.null :: st) Q) : E Θ d mc ms y cc nL ret cl sl n G pc ls st Q := by
  obtain ⟨hd, rfl⟩ := hd
  intro a b p e R s m args below meth c hE hn H locs la hH hS hl Z hz
  exact lv_aloadN hE.1 hE.2.1 hd (hl.2.2 _ _ hk).1 (K a b p e R s m args below meth c hE hn H locs la hH hS hl Z hz)
theorem E_istore_n {k : Fin 4} {x : Int32} (hd : Dc cc pc (.istore_n k) 1 pc') (hi : k.val < nL) (K : E Θ d mc ms y cc nL ret cl sl n G pc' ((k.val, .int x) :: ls) st Q) : E Θ d mc ms y cc nL ret cl sl n G pc ls (.int x :: st) Q := by
  obtain ⟨hd, rfl⟩ := hd
  intro a b p e R s m args below meth c hE hn H locs la hH hS hl Z hz
  exact lv_istore_n hE.1 hE.2.1 hd rfl hl.has hi rfl (fun la' h' => K a b p e R s m args below meth c hE hn H locs la' hH hS (hl.store rfl h') Z hz)
theorem E_istore {k : Nat} {x : Int32} (hd : Dc cc pc (.istore k) 2 pc') (hi : k < nL) (K : E Θ d mc ms y cc nL ret cl sl n G pc' ((k, .int x) :: ls) st Q) : E Θ d mc ms y cc nL ret cl sl n G pc ls (.int x :: st) Q := by
  obtain ⟨hd, rfl⟩ := hd
  intro a b p e R s m args below meth c hE hn H locs la hH hS hl Z hz
  exact lv_istore hE.1 hE.2.1 hd hl.has hi rfl (fun la' h' => K a b p e R s m args below meth c hE hn H locs la' hH hS (hl.store rfl h') Z hz)
theorem E_astore_n {k : Fin 4} {x : Nat} (hd : Dc cc pc (.astore_n k) 1 pc') (hi : k.val < nL) (K : E Θ d mc ms y cc nL ret cl sl n G pc' ((k.val, .ref x) :: ls) st Q) : E Θ d mc ms y cc nL ret cl sl n G pc ls (.ref x :: st) Q := by
  obtain ⟨hd, rfl⟩ := hd
  intro a b p e R s m args below meth c hE hn H locs la hH hS hl Z hz
  exact lv_astore_n hE.1 hE.2.1 hd rfl hl.has hi rfl (fun la' h' => K a b p e R s m args below meth c hE hn H locs la' hH hS (hl.store rfl h') Z hz)
theorem E_astore {k : Nat} {x : Nat} (hd : Dc cc pc (.astore k) 2 pc') (hi : k < nL) (K : E Θ d mc ms y cc nL ret cl sl n G pc' ((k, .ref x) :: ls) st Q) : E Θ d mc ms y cc nL ret cl sl n G pc ls (.ref x :: st) Q := by
  obtain ⟨hd, rfl⟩ := hd
  intro a b p e R s m args below meth c hE hn H locs la hH hS hl Z hz
  exact lv_astore hE.1 hE.2.1 hd hl.has hi rfl (fun la' h' => K a b p e R s m args below meth c hE hn H locs la' hH hS (hl.store rfl h') Z hz)
theorem E_astore_nN {k : Fin 4} (hd : Dc cc pc (.astore_n k) 1 pc') (hi : k.val < nL) (K : E Θ d mc ms y cc nL ret cl sl n G pc' ((k.val, Value.null) :: ls) st Q) : E Θ d mc ms y cc nL ret cl sl n G pc ls (Value.null :: st) Q := by
  obtain ⟨hd, rfl⟩ := hd
  intro a b p e R s m args below meth c hE hn H locs la hH hS hl Z hz
  exact lv_astore_nN hE.1 hE.2.1 hd rfl hl.has hi rfl (fun la' h' => K a b p e R s m args below meth c hE hn H locs la' hH hS (hl.store rfl h') Z hz)
theorem E_astoreN {k : Nat} (hd : Dc cc pc (.astore k) 2 pc') (hi : k < nL) (K : E Θ d mc ms y cc nL ret cl sl n G pc' ((k, Value.null) :: ls) st Q) : E Θ d mc ms y cc nL ret cl sl n G pc ls (Value.null :: st) Q := by
  obtain ⟨hd, rfl⟩ := hd
  intro a b p e R s m args below meth c hE hn H locs la hH hS hl Z hz
  exact lv_astoreN hE.1 hE.2.1 hd hl.has hi rfl (fun la' h' => K a b p e R s m args below meth c hE hn H locs la' hH hS (hl.store rfl h') Z hz)
theorem cn_at {nL : Nat} {ls : LV} {i : Nat} {v : Value} (hi : i < nL) (h : lk ls i = some v) : ∃ k : Nat, (cn nL ls)[k]? = some (i, v) := List.getElem?_of_mem (List.mem_filterMap.mpr ⟨i, List.mem_range.mpr hi, by rw [h]; rfl⟩)
theorem E_iinc {k : Nat} {c0 : Int} {x v : Int32} (hd : Dc cc pc (.iinc k c0) 3 pc') (hk : lk ls k = some (.int x)) (hv : Int32.ofInt c0 = v) (hi : k < nL) (K : E Θ d mc ms y cc nL ret cl sl n G pc' ((k, .int (x + v)) :: ls) st Q) : E Θ d mc ms y cc nL ret cl sl n G pc ls st Q := by
  obtain ⟨hd, rfl⟩ := hd
  intro a b p e R s m args below meth c hE hn H locs la hH hS hl Z hz
  obtain ⟨k0, hk0⟩ := cn_at hi hk
  subst hv
  exact lv_iinc hE.1 hE.2.1 hd hl.has hk0 rfl hi rfl (fun la' h' => K a b p e R s m args below meth c hE hn H locs la' hH hS (hl.store rfl h') Z hz)
theorem E_iadd {x z : Int32} (hd : Dc cc pc (.iadd) 1 pc') (K : E Θ d mc ms y cc nL ret cl sl n G pc' ls (.int (x + z) :: st) Q) : E Θ d mc ms y cc nL ret cl sl n G pc ls (.int z :: .int x :: st) Q := by
  obtain ⟨hd, rfl⟩ := hd
  intro a b p e R s m args below meth c hE hn H locs la hH hS hl Z hz
  exact lv_iadd hE.1 hE.2.1 hd (K a b p e R s m args below meth c hE hn H locs la hH hS hl Z hz)
theorem E_isub {x z : Int32} (hd : Dc cc pc (.isub) 1 pc') (K : E Θ d mc ms y cc nL ret cl sl n G pc' ls (.int (x - z) :: st) Q) : E Θ d mc ms y cc nL ret cl sl n G pc ls (.int z :: .int x :: st) Q := by
  obtain ⟨hd, rfl⟩ := hd
  intro a b p e R s m args below meth c hE hn H locs la hH hS hl Z hz
  exact lv_isub hE.1 hE.2.1 hd (K a b p e R s m args below meth c hE hn H locs la hH hS hl Z hz)
theorem E_imul {x z : Int32} (hd : Dc cc pc (.imul) 1 pc') (K : E Θ d mc ms y cc nL ret cl sl n G pc' ls (.int (x * z) :: st) Q) : E Θ d mc ms y cc nL ret cl sl n G pc ls (.int z :: .int x :: st) Q := by
  obtain ⟨hd, rfl⟩ := hd
  intro a b p e R s m args below meth c hE hn H locs la hH hS hl Z hz
  exact lv_imul hE.1 hE.2.1 hd (K a b p e R s m args below meth c hE hn H locs la hH hS hl Z hz)
theorem E_iand {x z : Int32} (hd : Dc cc pc (.iand) 1 pc') (K : E Θ d mc ms y cc nL ret cl sl n G pc' ls (.int (x &&& z) :: st) Q) : E Θ d mc ms y cc nL ret cl sl n G pc ls (.int z :: .int x :: st) Q := by
  obtain ⟨hd, rfl⟩ := hd
  intro a b p e R s m args below meth c hE hn H locs la hH hS hl Z hz
  exact lv_iand hE.1 hE.2.1 hd (K a b p e R s m args below meth c hE hn H locs la hH hS hl Z hz)
theorem E_ior {x z : Int32} (hd : Dc cc pc (.ior) 1 pc') (K : E Θ d mc ms y cc nL ret cl sl n G pc' ls (.int (x ||| z) :: st) Q) : E Θ d mc ms y cc nL ret cl sl n G pc ls (.int z :: .int x :: st) Q := by
  obtain ⟨hd, rfl⟩ := hd
  intro a b p e R s m args below meth c hE hn H locs la hH hS hl Z hz
  exact lv_ior hE.1 hE.2.1 hd (K a b p e R s m args below meth c hE hn H locs la hH hS hl Z hz)
theorem E_ixor {x z : Int32} (hd : Dc cc pc (.ixor) 1 pc') (K : E Θ d mc ms y cc nL ret cl sl n G pc' ls (.int (x ^^^ z) :: st) Q) : E Θ d mc ms y cc nL ret cl sl n G pc ls (.int z :: .int x :: st) Q := by
  obtain ⟨hd, rfl⟩ := hd
  intro a b p e R s m args below meth c hE hn H locs la hH hS hl Z hz
  exact lv_ixor hE.1 hE.2.1 hd (K a b p e R s m args below meth c hE hn H locs la hH hS hl Z hz)
theorem E_ishl {x z : Int32} (hd : Dc cc pc (.ishl) 1 pc') (K : E Θ d mc ms y cc nL ret cl sl n G pc' ls (.int (x <<< (z &&& 31)) :: st) Q) : E Θ d mc ms y cc nL ret cl sl n G pc ls (.int z :: .int x :: st) Q := by
  obtain ⟨hd, rfl⟩ := hd
  intro a b p e R s m args below meth c hE hn H locs la hH hS hl Z hz
  exact lv_ishl hE.1 hE.2.1 hd (K a b p e R s m args below meth c hE hn H locs la hH hS hl Z hz)
theorem E_ishr {x z : Int32} (hd : Dc cc pc (.ishr) 1 pc') (K : E Θ d mc ms y cc nL ret cl sl n G pc' ls (.int (x >>> (z &&& 31)) :: st) Q) : E Θ d mc ms y cc nL ret cl sl n G pc ls (.int z :: .int x :: st) Q := by
  obtain ⟨hd, rfl⟩ := hd
  intro a b p e R s m args below meth c hE hn H locs la hH hS hl Z hz
  exact lv_ishr hE.1 hE.2.1 hd (K a b p e R s m args below meth c hE hn H locs la hH hS hl Z hz)
theorem E_iushr {x z : Int32} (hd : Dc cc pc (.iushr) 1 pc') (K : E Θ d mc ms y cc nL ret cl sl n G pc' ls (.int ((x.toUInt32 >>> (z.toUInt32 &&& Int32.toUInt32 31)).toInt32) :: st) Q) : E Θ d mc ms y cc nL ret cl sl n G pc ls (.int z :: .int x :: st) Q := by
  obtain ⟨hd, rfl⟩ := hd
  intro a b p e R s m args below meth c hE hn H locs la hH hS hl Z hz
  exact lv_iushr hE.1 hE.2.1 hd rfl (K a b p e R s m args below meth c hE hn H locs la hH hS hl Z hz)
theorem E_idiv {x z : Int32} (hd : Dc cc pc (.idiv) 1 pc') (hz0 : ¬ z = 0) (K : E Θ d mc ms y cc nL ret cl sl n G pc' ls (.int (x / z) :: st) Q) : E Θ d mc ms y cc nL ret cl sl n G pc ls (.int z :: .int x :: st) Q := by
  obtain ⟨hd, rfl⟩ := hd
  intro a b p e R s m args below meth c hE hn H locs la hH hS hl Z hz
  exact lv_idiv hE.1 hE.2.1 hd hz0 (K a b p e R s m args below meth c hE hn H locs la hH hS hl Z hz)
theorem E_irem {x z : Int32} (hd : Dc cc pc (.irem) 1 pc') (hz0 : ¬ z = 0) (K : E Θ d mc ms y cc nL ret cl sl n G pc' ls (.int (x - x / z * z) :: st) Q) : E Θ d mc ms y cc nL ret cl sl n G pc ls (.int z :: .int x :: st) Q := by
  obtain ⟨hd, rfl⟩ := hd
  intro a b p e R s m args below meth c hE hn H locs la hH hS hl Z hz
  exact lv_irem hE.1 hE.2.1 hd hz0 (K a b p e R s m args below meth c hE hn H locs la hH hS hl Z hz)
theorem E_ineg {x : Int32} (hd : Dc cc pc (.ineg) 1 pc') (K : E Θ d mc ms y cc nL ret cl sl n G pc' ls (.int (-x) :: st) Q) : E Θ d mc ms y cc nL ret cl sl n G pc ls (.int x :: st) Q := by
  obtain ⟨hd, rfl⟩ := hd
  intro a b p e R s m args below meth c hE hn H locs la hH hS hl Z hz
  exact lv_ineg hE.1 hE.2.1 hd (K a b p e R s m args below meth c hE hn H locs la hH hS hl Z hz)
theorem E_i2s {x : Int32} (hd : Dc cc pc (.i2s) 1 pc') (K : E Θ d mc ms y cc nL ret cl sl n G pc' ls (.int x.toInt16.toInt32 :: st) Q) : E Θ d mc ms y cc nL ret cl sl n G pc ls (.int x :: st) Q := by
  obtain ⟨hd, rfl⟩ := hd
  intro a b p e R s m args below meth c hE hn H locs la hH hS hl Z hz
  exact lv_i2s hE.1 hE.2.1 hd rfl (K a b p e R s m args below meth c hE hn H locs la hH hS hl Z hz)
theorem E_i2c {x : Int32} (hd : Dc cc pc (.i2c) 1 pc') (K : E Θ d mc ms y cc nL ret cl sl n G pc' ls (.int (x.toUInt32 % 65536).toInt32 :: st) Q) : E Θ d mc ms y cc nL ret cl sl n G pc ls (.int x :: st) Q := by
  obtain ⟨hd, rfl⟩ := hd
  intro a b p e R s m args below meth c hE hn H locs la hH hS hl Z hz
  exact lv_i2c hE.1 hE.2.1 hd rfl (K a b p e R s m args below meth c hE hn H locs la hH hS hl Z hz)
theorem E_dup {v : Value} (hd : Dc cc pc (.dup) 1 pc') (hv : v.category = 1) (K : E Θ d mc ms y cc nL ret cl sl n G pc' ls (v :: v :: st) Q) : E Θ d mc ms y cc nL ret cl sl n G pc ls (v :: st) Q := by
  obtain ⟨hd, rfl⟩ := hd
  intro a b p e R s m args below meth c hE hn H locs la hH hS hl Z hz
  exact lv_dup hE.1 hE.2.1 hd hv (K a b p e R s m args below meth c hE hn H locs la hH hS hl Z hz)
theorem E_dup2 {v w : Value} (hd : Dc cc pc (.dup2) 1 pc') (hv : v.category = 1) (hw : w.category = 1) (K : E Θ d mc ms y cc nL ret cl sl n G pc' ls (v :: w :: v :: w :: st) Q) : E Θ d mc ms y cc nL ret cl sl n G pc ls (v :: w :: st) Q := by
  obtain ⟨hd, rfl⟩ := hd
  intro a b p e R s m args below meth c hE hn H locs la hH hS hl Z hz
  exact lv_dup2_11 hE.1 hE.2.1 hd hv hw (K a b p e R s m args below meth c hE hn H locs la hH hS hl Z hz)
theorem E_pop {v : Value} (hd : Dc cc pc (.pop) 1 pc') (hv : v.category = 1) (K : E Θ d mc ms y cc nL ret cl sl n G pc' ls st Q) : E Θ d mc ms y cc nL ret cl sl n G pc ls (v :: st) Q := by
  obtain ⟨hd, rfl⟩ := hd
  intro a b p e R s m args below meth c hE hn H locs la hH hS hl Z hz
  exact lv_pop hE.1 hE.2.1 hd hv (K a b p e R s m args below meth c hE hn H locs la hH hS hl Z hz)
theorem E_if_eq {x : Int32} {off : Int} {tgt : Nat} (hd : Db cc pc (.ifCond .eq off) off pc' tgt) (kt : x = 0 → E Θ d mc ms y cc nL ret cl sl n G tgt ls st Q) (kf : ¬ (x = 0) → E Θ d mc ms y cc nL ret cl sl n G pc' ls st Q) : E Θ d mc ms y cc nL ret cl sl n G pc ls (.int x :: st) Q := by
  obtain ⟨hd, rfl, ht⟩ := hd
  intro a b p e R s m args below meth c hE hn H locs la hH hS hl Z hz
  exact lv_if_eq hE.1 hE.2.1 hd ht (fun q => kt q a b p e R s m args below meth c hE hn H locs la hH hS hl Z hz) (fun q => kf q a b p e R s m args below meth c hE hn H locs la hH hS hl Z hz)
theorem E_icmp_eq {x z : Int32} {off : Int} {tgt : Nat} (hd : Db cc pc (.if_icmp .eq off) off pc' tgt) (kt : x = z → E Θ d mc ms y cc nL ret cl sl n G tgt ls st Q) (kf : ¬ (x = z) → E Θ d mc ms y cc nL ret cl sl n G pc' ls st Q) : E Θ d mc ms y cc nL ret cl sl n G pc ls (.int z :: .int x :: st) Q := by
  obtain ⟨hd, rfl, ht⟩ := hd
  intro a b p e R s m args below meth c hE hn H locs la hH hS hl Z hz
  exact lv_icmp_eq hE.1 hE.2.1 hd ht (fun q => kt q a b p e R s m args below meth c hE hn H locs la hH hS hl Z hz) (fun q => kf q a b p e R s m args below meth c hE hn H locs la hH hS hl Z hz)
theorem E_if_ne {x : Int32} {off : Int} {tgt : Nat} (hd : Db cc pc (.ifCond .ne off) off pc' tgt) (kt : ¬ x = 0 → E Θ d mc ms y cc nL ret cl sl n G tgt ls st Q) (kf : x = 0 → E Θ d mc ms y cc nL ret cl sl n G pc' ls st Q) : E Θ d mc ms y cc nL ret cl sl n G pc ls (.int x :: st) Q := by
  obtain ⟨hd, rfl, ht⟩ := hd
  intro a b p e R s m args below meth c hE hn H locs la hH hS hl Z hz
  exact lv_if_ne hE.1 hE.2.1 hd ht (fun q => kt q a b p e R s m args below meth c hE hn H locs la hH hS hl Z hz) (fun q => kf q a b p e R s m args below meth c hE hn H locs la hH hS hl Z hz)
theorem E_icmp_ne {x z : Int32} {off : Int} {tgt : Nat} (hd : Db cc pc (.if_icmp .ne off) off pc' tgt) (kt : ¬ x = z → E Θ d mc ms y cc nL ret cl sl n G tgt ls st Q) (kf : x = z → E Θ d mc ms y cc nL ret cl sl n G pc' ls st Q) : E Θ d mc ms y cc nL ret cl sl n G pc ls (.int z :: .int x :: st) Q := by
  obtain ⟨hd, rfl, ht⟩ := hd
  intro a b p e R s m args below meth c hE hn H locs la hH hS hl Z hz
  exact lv_icmp_ne hE.1 hE.2.1 hd ht (fun q => kt q a b p e R s m args below meth c hE hn H locs la hH hS hl Z hz) (fun q => kf q a b p e R s m args below meth c hE hn H locs la hH hS hl Z hz)
theorem E_if_lt {x : Int32} {off : Int} {tgt : Nat} (hd : Db cc pc (.ifCond .lt off) off pc' tgt) (kt : x < 0 → E Θ d mc ms y cc nL ret cl sl n G tgt ls st Q) (kf : ¬ (x < 0) → E Θ d mc ms y cc nL ret cl sl n G pc' ls st Q) : E Θ d mc ms y cc nL ret cl sl n G pc ls (.int x :: st) Q := by
  obtain ⟨hd, rfl, ht⟩ := hd
  intro a b p e R s m args below meth c hE hn H locs la hH hS hl Z hz
  exact lv_if_lt hE.1 hE.2.1 hd ht (fun q => kt q a b p e R s m args below meth c hE hn H locs la hH hS hl Z hz) (fun q => kf q a b p e R s m args below meth c hE hn H locs la hH hS hl Z hz)
theorem E_icmp_lt {x z : Int32} {off : Int} {tgt : Nat} (hd : Db cc pc (.if_icmp .lt off) off pc' tgt) (kt : x < z → E Θ d mc ms y cc nL ret cl sl n G tgt ls st Q) (kf : ¬ (x < z) → E Θ d mc ms y cc nL ret cl sl n G pc' ls st Q) : E Θ d mc ms y cc nL ret cl sl n G pc ls (.int z :: .int x :: st) Q := by
  obtain ⟨hd, rfl, ht⟩ := hd
  intro a b p e R s m args below meth c hE hn H locs la hH hS hl Z hz
  exact lv_icmp_lt hE.1 hE.2.1 hd ht (fun q => kt q a b p e R s m args below meth c hE hn H locs la hH hS hl Z hz) (fun q => kf q a b p e R s m args below meth c hE hn H locs la hH hS hl Z hz)
theorem E_if_ge {x : Int32} {off : Int} {tgt : Nat} (hd : Db cc pc (.ifCond .ge off) off pc' tgt) (kt : 0 ≤ x → E Θ d mc ms y cc nL ret cl sl n G tgt ls st Q) (kf : ¬ (0 ≤ x) → E Θ d mc ms y cc nL ret cl sl n G pc' ls st Q) : E Θ d mc ms y cc nL ret cl sl n G pc ls (.int x :: st) Q := by
  obtain ⟨hd, rfl, ht⟩ := hd
  intro a b p e R s m args below meth c hE hn H locs la hH hS hl Z hz
  exact lv_if_ge hE.1 hE.2.1 hd ht (fun q => kt q a b p e R s m args below meth c hE hn H locs la hH hS hl Z hz) (fun q => kf q a b p e R s m args below meth c hE hn H locs la hH hS hl Z hz)
theorem E_icmp_ge {x z : Int32} {off : Int} {tgt : Nat} (hd : Db cc pc (.if_icmp .ge off) off pc' tgt) (kt : z ≤ x → E Θ d mc ms y cc nL ret cl sl n G tgt ls st Q) (kf : ¬ (z ≤ x) → E Θ d mc ms y cc nL ret cl sl n G pc' ls st Q) : E Θ d mc ms y cc nL ret cl sl n G pc ls (.int z :: .int x :: st) Q := by
  obtain ⟨hd, rfl, ht⟩ := hd
  intro a b p e R s m args below meth c hE hn H locs la hH hS hl Z hz
  exact lv_icmp_ge hE.1 hE.2.1 hd ht (fun q => kt q a b p e R s m args below meth c hE hn H locs la hH hS hl Z hz) (fun q => kf q a b p e R s m args below meth c hE hn H locs la hH hS hl Z hz)
theorem E_if_gt {x : Int32} {off : Int} {tgt : Nat} (hd : Db cc pc (.ifCond .gt off) off pc' tgt) (kt : 0 < x → E Θ d mc ms y cc nL ret cl sl n G tgt ls st Q) (kf : ¬ (0 < x) → E Θ d mc ms y cc nL ret cl sl n G pc' ls st Q) : E Θ d mc ms y cc nL ret cl sl n G pc ls (.int x :: st) Q := by
  obtain ⟨hd, rfl, ht⟩ := hd
  intro a b p e R s m args below meth c hE hn H locs la hH hS hl Z hz
  exact lv_if_gt hE.1 hE.2.1 hd ht (fun q => kt q a b p e R s m args below meth c hE hn H locs la hH hS hl Z hz) (fun q => kf q a b p e R s m args below meth c hE hn H locs la hH hS hl Z hz)
theorem E_icmp_gt {x z : Int32} {off : Int} {tgt : Nat} (hd : Db cc pc (.if_icmp .gt off) off pc' tgt) (kt : z < x → E Θ d mc ms y cc nL ret cl sl n G tgt ls st Q) (kf : ¬ (z < x) → E Θ d mc ms y cc nL ret cl sl n G pc' ls st Q) : E Θ d mc ms y cc nL ret cl sl n G pc ls (.int z :: .int x :: st) Q := by
  obtain ⟨hd, rfl, ht⟩ := hd
  intro a b p e R s m args below meth c hE hn H locs la hH hS hl Z hz
  exact lv_icmp_gt hE.1 hE.2.1 hd ht (fun q => kt q a b p e R s m args below meth c hE hn H locs la hH hS hl Z hz) (fun q => kf q a b p e R s m args below meth c hE hn H locs la hH hS hl Z hz)
theorem E_if_le {x : Int32} {off : Int} {tgt : Nat} (hd : Db cc pc (.ifCond .le off) off pc' tgt) (kt : x ≤ 0 → E Θ d mc ms y cc nL ret cl sl n G tgt ls st Q) (kf : ¬ (x ≤ 0) → E Θ d mc ms y cc nL ret cl sl n G pc' ls st Q) : E Θ d mc ms y cc nL ret cl sl n G pc ls (.int x :: st) Q := by
  obtain ⟨hd, rfl, ht⟩ := hd
  intro a b p e R s m args below meth c hE hn H locs la hH hS hl Z hz
  exact lv_if_le hE.1 hE.2.1 hd ht (fun q => kt q a b p e R s m args below meth c hE hn H locs la hH hS hl Z hz) (fun q => kf q a b p e R s m args below meth c hE hn H locs la hH hS hl Z hz)
theorem E_icmp_le {x z : Int32} {off : Int} {tgt : Nat} (hd : Db cc pc (.if_icmp .le off) off pc' tgt) (kt : x ≤ z → E Θ d mc ms y cc nL ret cl sl n G tgt ls st Q) (kf : ¬ (x ≤ z) → E Θ d mc ms y cc nL ret cl sl n G pc' ls st Q) : E Θ d mc ms y cc nL ret cl sl n G pc ls (.int z :: .int x :: st) Q := by
  obtain ⟨hd, rfl, ht⟩ := hd
  intro a b p e R s m args below meth c hE hn H locs la hH hS hl Z hz
  exact lv_icmp_le hE.1 hE.2.1 hd ht (fun q => kt q a b p e R s m args below meth c hE hn H locs la hH hS hl Z hz) (fun q => kf q a b p e R s m args below meth c hE hn H locs la hH hS hl Z hz)
theorem E_goto {off : Int} {tgt : Nat} (hd : Db cc pc (.goto off) off pc' tgt) (K : E Θ d mc ms y cc nL ret cl sl n G tgt ls st Q) : E Θ d mc ms y cc nL ret cl sl n G pc ls st Q := by
  obtain ⟨hd, rfl, ht⟩ := hd
  intro a b p e R s m args below meth c hE hn H locs la hH hS hl Z hz
  exact lv_goto hE.1 hE.2.1 hd ht (K a b p e R s m args below meth c hE hn H locs la hH hS hl Z hz)
theorem E_nonnull {x : Nat} {off : Int} {tgt : Nat} (hd : Db cc pc (.ifnonnull off) off pc' tgt) (K : E Θ d mc ms y cc nL ret cl sl n G tgt ls st Q) : E Θ d mc ms y cc nL ret cl sl n G pc ls (.ref x :: st) Q := by
  obtain ⟨hd, rfl, ht⟩ := hd
  intro a b p e R s m args below meth c hE hn H locs la hH hS hl Z hz
  exact lv_ifnonnull hE.1 hE.2.1 hd ht (K a b p e R s m args below meth c hE hn H locs la hH hS hl Z hz)
theorem E_nonnullN {off : Int} {tgt : Nat} (hd : Db cc pc (.ifnonnull off) off pc' tgt) (K : E Θ d mc ms y cc nL ret cl sl n G pc' ls st Q) : E Θ d mc ms y cc nL ret cl sl n G pc ls (.null :: st) Q := by
  obtain ⟨hd, rfl, ht⟩ := hd
  intro a b p e R s m args below meth c hE hn H locs la hH hS hl Z hz
  exact lv_ifnonnullN hE.1 hE.2.1 hd (K a b p e R s m args below meth c hE hn H locs la hH hS hl Z hz)
theorem E_tswI {dflt lo hi off : Int} {offs : Array Int} {len tgt : Nat} {x : Int32} (hd : decode cc pc = .ok (.tableswitch dflt lo hi offs, len)) (k : Nat) (hx : x.toInt = lo + k) (hh : lo + k ≤ hi) (ho : offs[k]? = some off) (ht : (pc : Int) + off = (tgt : Int)) (K : E Θ d mc ms y cc nL ret cl sl n G tgt ls st Q) : E Θ d mc ms y cc nL ret cl sl n G pc ls (.int x :: st) Q := by
  intro a b p e R s m args below meth c hE hn H locs la hH hS hl Z hz
  exact lv_tableIn hE.1 hE.2.1 hd (by omega) (by omega) (by rw [show (x.toInt - lo).toNat = k by omega]; exact ho) ht (K a b p e R s m args below meth c hE hn H locs la hH hS hl Z hz)
theorem E_tswO {dflt lo hi : Int} {offs : Array Int} {len tgt : Nat} {x : Int32} (hd : decode cc pc = .ok (.tableswitch dflt lo hi offs, len)) (h : x.toInt < lo ∨ hi < x.toInt) (ht : (pc : Int) + dflt = (tgt : Int)) (K : E Θ d mc ms y cc nL ret cl sl n G tgt ls st Q) : E Θ d mc ms y cc nL ret cl sl n G pc ls (.int x :: st) Q := by
  intro a b p e R s m args below meth c hE hn H locs la hH hS hl Z hz
  exact lv_tableOut hE.1 hE.2.1 hd h ht (K a b p e R s m args below meth c hE hn H locs la hH hS hl Z hz)
theorem E_lsw {dflt off : Int} {ps : Array (Int × Int)} {len tgt : Nat} {x : Int32} (hd : decode cc pc = .ok (.lookupswitch dflt ps, len)) (hp : (ps.toList.zip (ps.toList.drop 1)).all (fun (a, next) => a.1 < next.1) = true) (ho : Op.lookupswitch.offset ps.toList dflt x.toInt = off) (ht : (pc : Int) + off = (tgt : Int)) (K : E Θ d mc ms y cc nL ret cl sl n G tgt ls st Q) : E Θ d mc ms y cc nL ret cl sl n G pc ls (.int x :: st) Q := by
  intro a b p e R s m args below meth c hE hn H locs la hH hS hl Z hz
  exact lv_lookup hE.1 hE.2.1 hd hp ho ht (K a b p e R s m args below meth c hE hn H locs la hH hS hl Z hz)
theorem E_iret {x : Int32} {f : Int32 → HP → Prop} (hd : Dc cc pc .ireturn 1 pc') (hc : cl = mc) (hr : nr ret x) (hq : f x G) : E Θ d mc ms y cc nL ret cl sl n G pc ls [.int x] (Qi f) := by
  obtain ⟨hd, rfl⟩ := hd
  intro a b p e R s m args below meth c hE hn H locs la hH hS hl Z hz
  subst hc
  exact W.widen a b (hz (some x) n G H locs pc la hq hn hH hS ⟨hd, hr⟩)
theorem E_vret {f : HP → Prop} (hd : Dc cc pc .return_ 1 pc') (hc : cl = mc) (hr : ret = none) (hq : f G) : E Θ d mc ms y cc nL ret cl sl n G pc ls [] (Qv f) := by
  obtain ⟨hd, rfl⟩ := hd
  intro a b p e R s m args below meth c hE hn H locs la hH hS hl Z hz
  subst hc
  exact W.widen a b (hz none n G H locs pc la hq hn hH hS ⟨hd, hr⟩)
theorem E_top {x : Int32} (K : ∀ z, z = x → E Θ d mc ms y cc nL ret cl sl n G pc ls (.int z :: st) Q) : E Θ d mc ms y cc nL ret cl sl n G pc ls (.int x :: st) Q := K x rfl
theorem E_eq {x z : Int32} (h : x = z) (K : E Θ d mc ms y cc nL ret cl sl n G pc ls (.int z :: st) Q) : E Θ d mc ms y cc nL ret cl sl n G pc ls (.int x :: st) Q := h ▸ K
end Rows
end
section
/-! a class's table: its number, name, fields, types -/
def Kc (ci : Nat) (C : String) (T : u_T) (N : Nat) (ty : Nat → FieldType) : Prop := vwCl[ci]? = some (C, T, N) ∧ (∀ w ∈ u_ws C T N, w ∈ TG) ∧ (∀ k, k < N → parseFieldDescriptor (T k).2.2.1 = some (ty k)) ∧ (∀ a, a < N → ∀ b, b < N → a ≠ b → (T a).2.1 ≠ (T b).2.1) ∧ Cond.instantiable C N ∈ TG ∧ Cond.initialized C ∈ TG
/-- a field link: in the class own by the number i, the field j of class ci -/
def FA (own : String) (i ci j : Nat) (t : FieldType) (fin : Bool) : Prop := ∃ (C : String) (T : u_T) (N : Nat) (ty : Nat → FieldType), Kc ci C T N ty ∧ j < N ∧ parseFieldDescriptor (T j).2.2.1 = some t ∧ (T j).2.2.2 = fin ∧ (Cond.fieldLink own i (T j).1 (T j).2.1 (T j).2.2.1 ∈ TG ∨ ∃ host, Cond.fieldLinkNest own i (T j).1 (T j).2.1 (T j).2.2.1 host ∈ lw_tbl)
theorem Hs.up {Θ : Th} {n : Nat} {G : HP} {H1 : Heap} {k : Nat} {e : va_E} (hk : k < n) (hP : va_P (tD Θ) vwCl ((wl (tb Θ) n G).set k (tb Θ + k, e)) H1) : Hs Θ n (va_up G k e) H1 := by
  unfold Hs
  rw [← wl_set hk]
  exact hP
theorem Hs.sz {Θ : Th} {n cl : Nat} {G : HP} {H H0 : Heap} {locs : List Loc} (hH : Hs Θ n G H) (hn : H0.size + cl = tb Θ + n) (hb : tb Θ ≤ H0.size) (hS : va_S (AA Θ) H0 H locs) (hu : H.size ≤ H0.size + cl) : H.size = tb Θ + n := by
  have h1 := hS.1
  by_cases h0 : n = 0
  · omega
  · have := (hH (n - 1) _ (wl_get (by omega))).lt
    simp only at this
    omega
section Heap
variable {Θ : Th} {d mc ms : Nat} {y : MethodName} {cc : ByteArray} {nL : Nat} {ret : Option FieldType} {cl sl n : Nat} {G : HP} {pc pc' : Nat} {ls : LV} {st : List Value} {Q : QT}
theorem E_get {i ci j k : Nat} {t : FieldType} {fin : Bool} {fs : List Value} {v : Value} (hF : FA y.cls i ci j t fin) (hd : Dc cc pc (.getfield i) 3 pc') (hk : k < n) (hG : G k = .inr (ci, fs)) (hv : fs[j]? = some v) (K : E Θ d mc ms y cc nL ret cl sl n G pc' ls (v :: st) Q) : E Θ d mc ms y cc nL ret cl sl n G pc ls (.ref (tb Θ + k) :: st) Q := by
  obtain ⟨hd, rfl⟩ := hd
  intro a b p e R s m args below meth c hE hn H locs la hH hS hl Z hz
  obtain ⟨C, T, N, ty, hK, hj, -, -, hw | ⟨host, hw⟩⟩ := hF
  · exact va_get (D := tD Θ) (Ts := TG) hE.1 hE.2.1 hE.2.2.2.2.2.2.1 hK.2.1 hE.2.2.2.2.2.1 hE.2.2.2.2.2.2.2.1.1 hH k (wl_at hk hG) hK.1 j hj (hE.2.2.2.2.2.2.1 _ hw) (fun _ h9 => h9) hv hd (K a b p e R s m args below meth c hE hn H locs la hH hS hl Z hz)
  · exact va_getN (D := tD Θ) (Ts := TG) hE.1 hE.2.1 hE.2.2.2.2.2.2.1 hK.2.1 hE.2.2.2.2.2.1 hE.2.2.2.2.2.2.2.1.1 hH k (wl_at hk hG) hK.1 j hj (va_Nw.use rfl (hE.2.2.2.2.2.2.2.1.2.1.1 _ hw rfl)) (fun _ h9 => h9) hv hd (K a b p e R s m args below meth c hE hn H locs la hH hS hl Z hz)
theorem E_put {i ci j k : Nat} {t : FieldType} {fs : List Value} {v : Value} (hF : FA y.cls i ci j t false) (hd : Dc cc pc (.putfield i) 3 pc') (hk : k < n) (hG : G k = .inr (ci, fs)) (hnr : narrow t v = v) (hft : fits t v = true) (hl0 : j < fs.length) (K : E Θ d mc ms y cc nL ret cl sl n (va_up G k (.inr (ci, fs.set j v))) pc' ls st Q) : E Θ d mc ms y cc nL ret cl sl n G pc ls (v :: .ref (tb Θ + k) :: st) Q := by
  obtain ⟨hd, rfl⟩ := hd
  intro a b p e R s m args below meth c hE hn H locs la hH hS hl Z hz
  obtain ⟨C, T, N, ty, hK, hj, ht, hfin, hw | ⟨host, hw⟩⟩ := hF
  · exact va_put (D := tD Θ) (Ts := TG) hE.1 hE.2.1 hE.2.2.2.2.2.2.1 hK.2.1 ty hK.2.2.1 hK.2.2.2.1 hE.2.2.2.2.2.1 hE.2.2.2.2.2.2.2.1.1 hH wl_D hS k (wl_at hk hG) hK.1 j hj (hE.2.2.2.2.2.2.1 _ hw) (fun _ h9 => h9) hfin ht hnr hft hl0 hd (fun H1 locs1 h1 h2 h3 => (K a b p e R s m args below meth c hE hn H1 locs1 la (Hs.up hk h1) h3 hl Z hz))
  · exact va_putN (D := tD Θ) (Ts := TG) hE.1 hE.2.1 hE.2.2.2.2.2.2.1 hK.2.1 ty hK.2.2.1 hK.2.2.2.1 hE.2.2.2.2.2.1 hE.2.2.2.2.2.2.2.1.1 hH wl_D hS k (wl_at hk hG) hK.1 j hj (va_Nw.use rfl (hE.2.2.2.2.2.2.2.1.2.1.1 _ hw rfl)) (fun _ h9 => h9) hfin ht hnr hft hl0 hd (fun H1 locs1 h1 h2 h3 => (K a b p e R s m args below meth c hE hn H1 locs1 la (Hs.up hk h1) h3 hl Z hz))
/-- a final field's link in its own class -/
def FP (own : String) (i ci j : Nat) (t : FieldType) : Prop := ∃ (C : String) (T : u_T) (N : Nat) (ty : Nat → FieldType), Kc ci C T N ty ∧ j < N ∧ parseFieldDescriptor (T j).2.2.1 = some t ∧ (T j).2.2.2 = true ∧ (T j).1 = own ∧ Cond.fieldLink own i (T j).1 (T j).2.1 (T j).2.2.1 ∈ TG
theorem E_putF {i ci j k : Nat} {t : FieldType} {fs : List Value} {v : Value} (hF : FP y.cls i ci j t) (hd : Dc cc pc (.putfield i) 3 pc') (hy : y.name = "<init>") (hk : k < n) (hG : G k = .inr (ci, fs)) (hnr : narrow t v = v) (hft : fits t v = true) (hl0 : j < fs.length) (K : E Θ d mc ms y cc nL ret cl sl n (va_up G k (.inr (ci, fs.set j v))) pc' ls st Q) : E Θ d mc ms y cc nL ret cl sl n G pc ls (v :: .ref (tb Θ + k) :: st) Q := by
  obtain ⟨hd, rfl⟩ := hd
  intro a b p e R s m args below meth c hE hn H locs la hH hS hl Z hz
  obtain ⟨C, T, N, ty, hK, hj, ht, hfin, ho, hw⟩ := hF
  exact va_putF (D := tD Θ) (Ts := TG) hE.1 hE.2.1 hE.2.2.2.2.2.2.1 hK.2.1 ty hK.2.2.1 hK.2.2.2.1 hE.2.2.2.2.2.1 hE.2.2.2.2.2.2.2.1.1 hH wl_D hS k (wl_at hk hG) hK.1 j hj (hE.2.2.2.2.2.2.1 _ hw) (fun _ h9 => h9) hfin (hE.2.2.2.2.2.2.2.2.2.2.2 hy) ho ht hnr hft hl0 hd (fun H1 locs1 h1 h2 h3 => (K a b p e R s m args below meth c hE hn H1 locs1 la (Hs.up hk h1) h3 hl Z hz))
theorem E_iald {k len j : Nat} {f : Nat → Int32} {x : Int32} (hd : Dc cc pc (.iaload) 1 pc') (hk : k < n) (hG : G k = iA Θ 0 len f) (hx : x = nI j) (hj : j < len) (hlen : len < 2 ^ 31) (K : E Θ d mc ms y cc nL ret cl sl n G pc' ls (.int (f j) :: st) Q) : E Θ d mc ms y cc nL ret cl sl n G pc ls (.int x :: .ref (tb Θ + k) :: st) Q := by
  obtain ⟨hd, rfl⟩ := hd
  subst hx
  intro a b p e R s m args below meth c hE hn H locs la hH hS hl Z hz
  refine va_iald hE.1 hE.2.1 hE.2.2.2.2.2.2.2.1.1 hH k 0 (wl_at hk hG) rfl (vp_in_nI hj hlen) hd ?_
  rw [nI_clamp (Nat.lt_trans hj hlen)]
  exact K a b p e R s m args below meth c hE hn H locs la hH hS hl Z hz
theorem E_cald {k len j : Nat} {f : Nat → Int32} {x : Int32} (hd : Dc cc pc (.caload) 1 pc') (hk : k < n) (hG : G k = iA Θ 1 len f) (hx : x = nI j) (hj : j < len) (hlen : len < 2 ^ 31) (K : E Θ d mc ms y cc nL ret cl sl n G pc' ls (.int (f j) :: st) Q) : E Θ d mc ms y cc nL ret cl sl n G pc ls (.int x :: .ref (tb Θ + k) :: st) Q := by
  obtain ⟨hd, rfl⟩ := hd
  subst hx
  intro a b p e R s m args below meth c hE hn H locs la hH hS hl Z hz
  refine va_cald hE.1 hE.2.1 hE.2.2.2.2.2.2.2.1.1 hH k 1 (wl_at hk hG) rfl (vp_in_nI hj hlen) hd ?_
  rw [nI_clamp (Nat.lt_trans hj hlen)]
  exact K a b p e R s m args below meth c hE hn H locs la hH hS hl Z hz
theorem E_zald {k len j : Nat} {f : Nat → Int32} {x : Int32} (hd : Dc cc pc (.baload) 1 pc') (hk : k < n) (hG : G k = iA Θ 2 len f) (hx : x = nI j) (hj : j < len) (hlen : len < 2 ^ 31) (K : E Θ d mc ms y cc nL ret cl sl n G pc' ls (.int (f j) :: st) Q) : E Θ d mc ms y cc nL ret cl sl n G pc ls (.int x :: .ref (tb Θ + k) :: st) Q := by
  obtain ⟨hd, rfl⟩ := hd
  subst hx
  intro a b p e R s m args below meth c hE hn H locs la hH hS hl Z hz
  refine va_zald hE.1 hE.2.1 hE.2.2.2.2.2.2.2.1.1 hH k 2 (wl_at hk hG) rfl (vp_in_nI hj hlen) hd ?_
  rw [nI_clamp (Nat.lt_trans hj hlen)]
  exact K a b p e R s m args below meth c hE hn H locs la hH hS hl Z hz
theorem E_iast {k len j : Nat} {f : Nat → Int32} {x x0 : Int32} (hd : Dc cc pc (.iastore) 1 pc') (hk : k < n) (hG : G k = iA Θ 0 len f) (hx : x = nI j) (hj : j < len) (hlen : len < 2 ^ 31) (K : E Θ d mc ms y cc nL ret cl sl n (va_up G k (iA Θ 0 len (upd f j x0))) pc' ls st Q) : E Θ d mc ms y cc nL ret cl sl n G pc ls (.int x0 :: .int x :: .ref (tb Θ + k) :: st) Q := by
  obtain ⟨hd, rfl⟩ := hd
  subst hx
  intro a b p e R s m args below meth c hE hn H locs la hH hS hl Z hz
  refine va_iast hE.1 hE.2.1 hE.2.2.2.2.2.2.2.1.1 hH wl_D hS k 0 (wl_at hk hG) rfl (vp_in_nI hj hlen) hd (fun H1 locs1 h1 h2 h3 => ?_)
  rw [nI_clamp (Nat.lt_trans hj hlen)] at h1
  exact (K a b p e R s m args below meth c hE hn H1 locs1 la (Hs.up hk h1) h3 hl Z hz)
theorem E_cast {k len j : Nat} {f : Nat → Int32} {x x0 : Int32} (hd : Dc cc pc (.castore) 1 pc') (hk : k < n) (hG : G k = iA Θ 1 len f) (hx : x = nI j) (hj : j < len) (hlen : len < 2 ^ 31) (K : E Θ d mc ms y cc nL ret cl sl n (va_up G k (iA Θ 1 len (upd f j (vp_nar .char x0)))) pc' ls st Q) : E Θ d mc ms y cc nL ret cl sl n G pc ls (.int x0 :: .int x :: .ref (tb Θ + k) :: st) Q := by
  obtain ⟨hd, rfl⟩ := hd
  subst hx
  intro a b p e R s m args below meth c hE hn H locs la hH hS hl Z hz
  refine va_cast hE.1 hE.2.1 hE.2.2.2.2.2.2.2.1.1 hH wl_D hS k 1 (wl_at hk hG) rfl (vp_in_nI hj hlen) hd (fun H1 locs1 h1 h2 h3 => ?_)
  rw [nI_clamp (Nat.lt_trans hj hlen)] at h1
  exact (K a b p e R s m args below meth c hE hn H1 locs1 la (Hs.up hk h1) h3 hl Z hz)
theorem E_zast {k len j : Nat} {f : Nat → Int32} {x x0 : Int32} (hd : Dc cc pc (.bastore) 1 pc') (hk : k < n) (hG : G k = iA Θ 2 len f) (hx : x = nI j) (hj : j < len) (hlen : len < 2 ^ 31) (K : E Θ d mc ms y cc nL ret cl sl n (va_up G k (iA Θ 2 len (upd f j (vp_nar .boolean x0)))) pc' ls st Q) : E Θ d mc ms y cc nL ret cl sl n G pc ls (.int x0 :: .int x :: .ref (tb Θ + k) :: st) Q := by
  obtain ⟨hd, rfl⟩ := hd
  subst hx
  intro a b p e R s m args below meth c hE hn H locs la hH hS hl Z hz
  refine va_zast hE.1 hE.2.1 hE.2.2.2.2.2.2.2.1.1 hH wl_D hS k 2 (wl_at hk hG) rfl (vp_in_nI hj hlen) hd (fun H1 locs1 h1 h2 h3 => ?_)
  rw [nI_clamp (Nat.lt_trans hj hlen)] at h1
  exact (K a b p e R s m args below meth c hE hn H1 locs1 la (Hs.up hk h1) h3 hl Z hz)
theorem E_alen {k len t : Nat} {f : Nat → Int32} {ty : FieldType} (hd : Dc cc pc .arraylength 1 pc') (hk : k < n) (hG : G k = iA Θ t len f) (ht : (tys Θ)[t]? = some (tk Θ t, ty)) (K : E Θ d mc ms y cc nL ret cl sl n G pc' ls (.int (nI len) :: st) Q) : E Θ d mc ms y cc nL ret cl sl n G pc ls (.ref (tb Θ + k) :: st) Q := by
  obtain ⟨hd, rfl⟩ := hd
  intro a b p e R s m args below meth c hE hn H locs la hH hS hl Z hz
  exact va_alen hE.1 hE.2.1 hE.2.2.2.2.2.2.2.1.1 hH k t (wl_at hk hG) ht rfl hd (K a b p e R s m args below meth c hE hn H locs la hH hS hl Z hz)
theorem E_alenR {k len t : Nat} {f : Nat → Option Nat} {ty : FieldType} (hd : Dc cc pc .arraylength 1 pc') (hk : k < n) (hG : G k = rA Θ t len f) (ht : (tys Θ)[t]? = some (tk Θ t, ty)) (K : E Θ d mc ms y cc nL ret cl sl n G pc' ls (.int (nI len) :: st) Q) : E Θ d mc ms y cc nL ret cl sl n G pc ls (.ref (tb Θ + k) :: st) Q := by
  obtain ⟨hd, rfl⟩ := hd
  intro a b p e R s m args below meth c hE hn H locs la hH hS hl Z hz
  exact va_alen hE.1 hE.2.1 hE.2.2.2.2.2.2.2.1.1 hH k t (wl_at hk hG) ht rfl hd (K a b p e R s m args below meth c hE hn H locs la hH hS hl Z hz)
theorem E_aald {k len t j : Nat} {f : Nat → Option Nat} {x : Int32} {C : String} (hd : Dc cc pc .aaload 1 pc') (hk : k < n) (hG : G k = rA Θ t len f) (ht : (tys Θ)[t]? = some (tk Θ t, .object C)) (hx : x = nI j) (hj : j < len) (hlen : len < 2 ^ 31) {q : Nat} (hq : f j = some q) (K : E Θ d mc ms y cc nL ret cl sl n G pc' ls (.ref q :: st) Q) : E Θ d mc ms y cc nL ret cl sl n G pc ls (.int x :: .ref (tb Θ + k) :: st) Q := by
  obtain ⟨hd, rfl⟩ := hd
  subst hx
  intro a b p e R s m args below meth c hE hn H locs la hH hS hl Z hz
  refine va_aldq hE.1 hE.2.1 hE.2.2.2.2.2.2.2.1.1 hH k t (wl_at hk hG) ht (vp_in_nI hj hlen) hd ?_
  rw [nI_clamp (Nat.lt_trans hj hlen), hq]
  exact K a b p e R s m args below meth c hE hn H locs la hH hS hl Z hz
theorem E_aaldN {k len t j : Nat} {f : Nat → Option Nat} {x : Int32} {C : String} (hd : Dc cc pc .aaload 1 pc') (hk : k < n) (hG : G k = rA Θ t len f) (ht : (tys Θ)[t]? = some (tk Θ t, .object C)) (hx : x = nI j) (hj : j < len) (hlen : len < 2 ^ 31) (hq : f j = none) (K : E Θ d mc ms y cc nL ret cl sl n G pc' ls (.null :: st) Q) : E Θ d mc ms y cc nL ret cl sl n G pc ls (.int x :: .ref (tb Θ + k) :: st) Q := by
  obtain ⟨hd, rfl⟩ := hd
  subst hx
  intro a b p e R s m args below meth c hE hn H locs la hH hS hl Z hz
  refine va_aldq hE.1 hE.2.1 hE.2.2.2.2.2.2.2.1.1 hH k t (wl_at hk hG) ht (vp_in_nI hj hlen) hd ?_
  rw [nI_clamp (Nat.lt_trans hj hlen), hq]
  exact K a b p e R s m args below meth c hE hn H locs la hH hS hl Z hz
theorem E_aast {k len t j ci kv : Nat} {f : Nat → Option Nat} {x : Int32} {C : String} {r : vw_C} {fs : List Value} (hd : Dc cc pc .aastore 1 pc') (hk : k < n) (hG : G k = rA Θ t len f) (ht : (tys Θ)[t]? = some (tk Θ t, .object C)) (hx : x = nI j) (hj : j < len) (hlen : len < 2 ^ 31) (hkv : kv < n) (hGv : G kv = .inr (ci, fs)) (hc : vwCl[ci]? = some r) (has : C = r.1 ∨ Cond.castable r.1 C ∈ lw_tbl) (K : E Θ d mc ms y cc nL ret cl sl n (va_up G k (rA Θ t len (va_up f j (some (tb Θ + kv))))) pc' ls st Q) : E Θ d mc ms y cc nL ret cl sl n G pc ls (.ref (tb Θ + kv) :: .int x :: .ref (tb Θ + k) :: st) Q := by
  obtain ⟨hd, rfl⟩ := hd
  subst hx
  intro a b p e R s m args below meth c hE hn H locs la hH hS hl Z hz
  rcases has with rfl | has
  · refine va_astq hE.1 hE.2.1 hE.2.2.2.2.2.2.2.1.1 hH wl_D hS k t kv ci (wl_at hk hG) ht (wl_at hkv hGv) hc (vp_in_nI hj hlen) hd (fun H1 locs1 h1 h2 h3 => ?_)
    rw [nI_clamp (Nat.lt_trans hj hlen)] at h1
    exact (K a b p e R s m args below meth c hE hn H1 locs1 la (Hs.up hk h1) h3 hl Z hz)
  · refine va_astqO hE.1 hE.2.1 hE.2.2.2.2.2.2.2.1.1 hH wl_D hS k t kv ci (wl_at hk hG) ht (hE.2.2.2.2.2.2.2.1.2.1.1 _ has rfl) (wl_at hkv hGv) hc (vp_in_nI hj hlen) hd (fun H1 locs1 h1 h2 h3 => ?_)
    rw [nI_clamp (Nat.lt_trans hj hlen)] at h1
    exact (K a b p e R s m args below meth c hE hn H1 locs1 la (Hs.up hk h1) h3 hl Z hz)
theorem E_aastN {k len t j : Nat} {f : Nat → Option Nat} {x : Int32} {C : String} (hd : Dc cc pc .aastore 1 pc') (hk : k < n) (hG : G k = rA Θ t len f) (ht : (tys Θ)[t]? = some (tk Θ t, .object C)) (hx : x = nI j) (hj : j < len) (hlen : len < 2 ^ 31) (K : E Θ d mc ms y cc nL ret cl sl n (va_up G k (rA Θ t len (va_up f j none))) pc' ls st Q) : E Θ d mc ms y cc nL ret cl sl n G pc ls (.null :: .int x :: .ref (tb Θ + k) :: st) Q := by
  obtain ⟨hd, rfl⟩ := hd
  subst hx
  intro a b p e R s m args below meth c hE hn H locs la hH hS hl Z hz
  refine va_astqN hE.1 hE.2.1 hE.2.2.2.2.2.2.2.1.1 hH wl_D hS k t (wl_at hk hG) ht (vp_in_nI hj hlen) hd (fun H1 locs1 h1 h2 h3 => ?_)
  rw [nI_clamp (Nat.lt_trans hj hlen)] at h1
  exact (K a b p e R s m args below meth c hE hn H1 locs1 la (Hs.up hk h1) h3 hl Z hz)
theorem Hs.push {Θ : Th} {n : Nat} {G : HP} {H H1 : Heap} {e : va_E} (hH : Hs Θ n G H) (hz : H.size = tb Θ + n) (o1 : ∀ q : Nat, q < H.size → H1[q]? = H[q]?) (he : va_at (tD Θ) vwCl (tb Θ + n, e) H1) : Hs Θ (n + 1) (va_up G n e) H1 := by
  unfold Hs
  rw [← wl_push]
  refine (hH.kept (fun k x hx => o1 x.1 ((hH k x hx).lt))).app (fun k x hx => ?_)
  have hk : k < 1 := (List.getElem?_eq_some_iff.mp hx).1
  rw [show k = 0 by omega] at hx
  cases hx
  exact he
theorem Sf.push {Θ : Th} {H0 H H1 : Heap} {locs : List Loc} (hS : va_S (AA Θ) H0 H locs) (z1 : H1.size = H.size + 1) (o1 : ∀ q : Nat, q < H.size → H1[q]? = H[q]?) : va_S (AA Θ) H0 H1 locs := ⟨Nat.le_trans hS.1 (by omega), fun x h1 h2 => (o1 x (Nat.lt_of_lt_of_le h1 hS.1)).trans (hS.2.1 x h1 h2), hS.2.2⟩
theorem E_new {i ci N : Nat} {C : String} {T : u_T} {ty : Nat → FieldType} {fs : List Value} (hK0 : Kc ci C T N ty) (hw : Cond.classLink y.cls i C ∈ TG) (hd : Dc cc pc (.new i) 3 pc') (hfs : ∀ j, j < N → defaultValue (ty j) = vp_V fs j) (hc1 : cl + 1 ≤ mc) (hs1 : sl + N ≤ ms) (K : E Θ d mc ms y cc nL ret (cl + 1) (sl + N) (n + 1) (va_up G n (.inr (ci, fs))) pc' ls (.ref (tb Θ + n) :: st) Q) : E Θ d mc ms y cc nL ret cl sl n G pc ls st Q := by
  obtain ⟨hd, rfl⟩ := hd
  intro a b p e R s m args below meth c hE hn H locs la hH hS hl Z hz
  intro T0 hT X
  have hu : H.size ≤ s.heap.size + cl := by rw [← hT]; exact X.same.2.2.1
  have hsz := hH.sz hn hE.2.2.2.2.2.2.2.2.2.1 hS hu
  have hKn := hE.2.2.2.2.2.2.2.1.1.1 ci _ hK0.1
  refine (show W p (tL Θ) e R s m args below meth c H locs cl sl Z (F0 m pc la st) from ?_) T0 hT X
  refine W.newcK hE.1 hE.2.1 hE.2.2.2.2.2.1 (hE.2.2.2.2.2.2.1 _ hw) (hE.2.2.2.2.2.2.1 _ hK0.2.2.2.2.1) (hE.2.2.2.2.2.2.1 _ hK0.2.2.2.2.2) rfl hd (by have := hE.2.2.2.2.2.2.2.2.2.2.1.2.2.1; omega) (by have := hE.2.2.2.2.2.2.2.2.2.2.1.2.2.2; omega) hKn.2.1 hsz fun H1 kC hkC e1 z1 o1 => ?_
  exact K hc1 hs1 p e R s m args below meth c hE (by omega) H1 locs la (hH.push hsz (fun q hq => o1 q (by omega)) ⟨_, hK0.1, (u_born ty hE.2.2.2.2.2.2.1 hK0.2.1 hKn hkC e1 hK0.2.2.1).to hfs⟩) (Sf.push hS (by omega) (fun q hq => o1 q (by omega))) hl Z hz
theorem E_newi {len : Nat} {x : Int32} (hw : Cond.arrayClass .int ∈ TG) (hd : Dc cc pc (.newarray .int) 2 pc') (hx : x = nI len) (hlen : len < 2 ^ 20) (hc1 : cl + 1 ≤ mc) (hs1 : sl + len ≤ ms) (K : E Θ d mc ms y cc nL ret (cl + 1) (sl + len) (n + 1) (va_up G n (iA Θ 0 len (fun _ => 0))) pc' ls (.ref (tb Θ + n) :: st) Q) : E Θ d mc ms y cc nL ret cl sl n G pc ls (.int x :: st) Q := by
  obtain ⟨hd, rfl⟩ := hd
  subst hx
  intro a b p e R s m args below meth c hE hn H locs la hH hS hl Z hz
  intro T0 hT X
  have hu : H.size ≤ s.heap.size + cl := by rw [← hT]; exact X.same.2.2.1
  have hsz := hH.sz hn hE.2.2.2.2.2.2.2.2.2.1 hS hu
  refine (show W p (tL Θ) e R s m args below meth c H locs cl sl Z (F0 m pc la (.int (nI len) :: st)) from ?_) T0 hT X
  refine va_newaK (atype := .int) hE.1 hE.2.1 (hE.2.2.2.2.2.2.1 _ hw) rfl hd rfl (nI_pos (by omega)) (nI_clamp (by omega)) (by show len * _ ≤ _; simp [componentBytes, newarray.typeOf]; omega) (by have := hE.2.2.2.2.2.2.2.2.2.2.1.2.2.1; omega) (by have := hE.2.2.2.2.2.2.2.2.2.2.1.2.2.2; omega) hsz fun H1 cA e1 z1 o1 hAr hNm => ?_
  have hcA : cA = tk Θ 0 := by
    have h2 : s.vm.findClass ("[" ++ (newarray.typeOf .int).toString) = some (tk Θ 0) := (hE.2.2.2.2.2.2.2.1.1.2 0 _ rfl).2
    exact Option.some.inj (hNm.symm.trans h2)
  subst hcA
  exact K hc1 hs1 p e R s m args below meth c hE (by omega) H1 locs la (hH.push hsz (fun q hq => o1 q (by omega)) e1) (Sf.push hS (by omega) (fun q hq => o1 q (by omega))) hl Z hz
theorem E_newc {len : Nat} {x : Int32} (hw : Cond.arrayClass .char ∈ TG) (hd : Dc cc pc (.newarray .char) 2 pc') (hx : x = nI len) (hlen : len < 2 ^ 20) (hc1 : cl + 1 ≤ mc) (hs1 : sl + len ≤ ms) (K : E Θ d mc ms y cc nL ret (cl + 1) (sl + len) (n + 1) (va_up G n (iA Θ 1 len (fun _ => 0))) pc' ls (.ref (tb Θ + n) :: st) Q) : E Θ d mc ms y cc nL ret cl sl n G pc ls (.int x :: st) Q := by
  obtain ⟨hd, rfl⟩ := hd
  subst hx
  intro a b p e R s m args below meth c hE hn H locs la hH hS hl Z hz
  intro T0 hT X
  have hu : H.size ≤ s.heap.size + cl := by rw [← hT]; exact X.same.2.2.1
  have hsz := hH.sz hn hE.2.2.2.2.2.2.2.2.2.1 hS hu
  refine (show W p (tL Θ) e R s m args below meth c H locs cl sl Z (F0 m pc la (.int (nI len) :: st)) from ?_) T0 hT X
  refine va_newaK (atype := .char) hE.1 hE.2.1 (hE.2.2.2.2.2.2.1 _ hw) rfl hd rfl (nI_pos (by omega)) (nI_clamp (by omega)) (by show len * _ ≤ _; simp [componentBytes, newarray.typeOf]; omega) (by have := hE.2.2.2.2.2.2.2.2.2.2.1.2.2.1; omega) (by have := hE.2.2.2.2.2.2.2.2.2.2.1.2.2.2; omega) hsz fun H1 cA e1 z1 o1 hAr hNm => ?_
  have hcA : cA = tk Θ 1 := by
    have h2 : s.vm.findClass ("[" ++ (newarray.typeOf .char).toString) = some (tk Θ 1) := (hE.2.2.2.2.2.2.2.1.1.2 1 _ rfl).2
    exact Option.some.inj (hNm.symm.trans h2)
  subst hcA
  exact K hc1 hs1 p e R s m args below meth c hE (by omega) H1 locs la (hH.push hsz (fun q hq => o1 q (by omega)) e1) (Sf.push hS (by omega) (fun q hq => o1 q (by omega))) hl Z hz
theorem E_newz {len : Nat} {x : Int32} (hw : Cond.arrayClass .boolean ∈ TG) (hd : Dc cc pc (.newarray .boolean) 2 pc') (hx : x = nI len) (hlen : len < 2 ^ 20) (hc1 : cl + 1 ≤ mc) (hs1 : sl + len ≤ ms) (K : E Θ d mc ms y cc nL ret (cl + 1) (sl + len) (n + 1) (va_up G n (iA Θ 2 len (fun _ => 0))) pc' ls (.ref (tb Θ + n) :: st) Q) : E Θ d mc ms y cc nL ret cl sl n G pc ls (.int x :: st) Q := by
  obtain ⟨hd, rfl⟩ := hd
  subst hx
  intro a b p e R s m args below meth c hE hn H locs la hH hS hl Z hz
  intro T0 hT X
  have hu : H.size ≤ s.heap.size + cl := by rw [← hT]; exact X.same.2.2.1
  have hsz := hH.sz hn hE.2.2.2.2.2.2.2.2.2.1 hS hu
  refine (show W p (tL Θ) e R s m args below meth c H locs cl sl Z (F0 m pc la (.int (nI len) :: st)) from ?_) T0 hT X
  refine va_newaK (atype := .boolean) hE.1 hE.2.1 (hE.2.2.2.2.2.2.1 _ hw) rfl hd rfl (nI_pos (by omega)) (nI_clamp (by omega)) (by show len * _ ≤ _; simp [componentBytes, newarray.typeOf]; omega) (by have := hE.2.2.2.2.2.2.2.2.2.2.1.2.2.1; omega) (by have := hE.2.2.2.2.2.2.2.2.2.2.1.2.2.2; omega) hsz fun H1 cA e1 z1 o1 hAr hNm => ?_
  have hcA : cA = tk Θ 2 := by
    have h2 : s.vm.findClass ("[" ++ (newarray.typeOf .boolean).toString) = some (tk Θ 2) := (hE.2.2.2.2.2.2.2.1.1.2 2 _ rfl).2
    exact Option.some.inj (hNm.symm.trans h2)
  subst hcA
  exact K hc1 hs1 p e R s m args below meth c hE (by omega) H1 locs la (hH.push hsz (fun q hq => o1 q (by omega)) e1) (Sf.push hS (by omega) (fun q hq => o1 q (by omega))) hl Z hz
theorem E_newq {i len t : Nat} {x : Int32} {C : String} (hw : Cond.classLink y.cls i C ∈ TG) (hao : C ∈ aoL) (ht : (tys Θ)[t]? = some (tk Θ t, .object C)) (hd : Dc cc pc (.anewarray i) 3 pc') (hx : x = nI len) (hlen : len < 2 ^ 20) (hc1 : cl + 1 ≤ mc) (hs1 : sl + len ≤ ms) (K : E Θ d mc ms y cc nL ret (cl + 1) (sl + len) (n + 1) (va_up G n (rA Θ t len (fun _ => none))) pc' ls (.ref (tb Θ + n) :: st) Q) : E Θ d mc ms y cc nL ret cl sl n G pc ls (.int x :: st) Q := by
  obtain ⟨hd, rfl⟩ := hd
  subst hx
  intro a b p e R s m args below meth c hE hn H locs la hH hS hl Z hz
  intro T0 hT X
  have hu : H.size ≤ s.heap.size + cl := by rw [← hT]; exact X.same.2.2.1
  have hsz := hH.sz hn hE.2.2.2.2.2.2.2.2.2.1 hS hu
  have ecl := nI_clamp (n := len) (by omega)
  refine (show W p (tL Θ) e R s m args below meth c H locs cl sl Z (F0 m pc la (.int (nI len) :: st)) from ?_) T0 hT X
  refine W.anew hE.1 hE.2.1 hE.2.2.2.2.2.1 (hE.2.2.2.2.2.2.1 _ hw) (va_AO.use (hE.2.2.2.2.2.2.2.1.2.1.2 C hao)) rfl hd rfl (nI_pos (by omega)) (by rw [ecl]; omega) (by have := hE.2.2.2.2.2.2.2.2.2.2.1.2.2.1; omega) (by rw [ecl]; have := hE.2.2.2.2.2.2.2.2.2.2.1.2.2.2; omega) fun cA kA comp f1 f2 f3 f4 => ?_
  rw [ecl]
  have hcA : cA = tk Θ t := by
    obtain ⟨kA', comp', -, -, -, h2⟩ := (hE.2.2.2.2.2.2.2.1.1.2 t _ ht).2
    exact Option.some.inj (f1.symm.trans h2)
  subst hcA
  generalize hH1 : H.push ({ cls := tk Θ t, slots := Array.replicate len .null, vm := .none } : Cell) = H1
  have z1 : H1.size = H.size + 1 := by rw [← hH1, Array.size_push]
  have e1 : H1[H.size]? = some (arrV (tk Θ t) len (fun _ => .null)) := by rw [← hH1, Array.getElem?_push_size, ← arrV_new]
  have o1 : ∀ q : Nat, q < H.size → H1[q]? = H[q]? := fun q hq => by rw [← hH1, Array.getElem?_push, if_neg (Nat.ne_of_lt hq)]
  rw [hsz] at e1 ⊢
  exact K hc1 hs1 p e R s m args below meth c hE (by omega) H1 locs la (hH.push hsz o1 e1) (Sf.push hS z1 o1) hl Z hz
theorem E_objInit {i k : Nat} (hw : Cond.methodLink y.cls i Lib.objectInit ∈ TG) (hw2 : Cond.instanceMethod Lib.objectInit ∈ TG) (hw3 : Cond.code Lib.objectInit ⟨#[0xb1]⟩ 1 none ∈ TG) (hd : Dc cc pc (.invokespecial i) 3 pc') (hst : (st.map fun v => v.category).sum ≤ 8) (K : E Θ (d + 1) mc ms y cc nL ret cl sl n G pc' ls st Q) : E Θ (d + 1) mc ms y cc nL ret cl sl n G pc ls (.ref k :: st) Q := by
  obtain ⟨hd, rfl⟩ := hd
  intro a b p e R s m args below meth c hE hn H locs la hH hS hl Z hz
  have hr := hE.2.2.2.2.2.2.2.2.2.2.1
  have hrm := lv_room (m := m) (pc := pc) (ls := la) (rest := .ref k :: st) hst
  exact W.objInit hE.1 hE.2.1 hE.2.2.2.2.2.1 (hE.2.2.2.2.2.2.1 _ hw) (hE.2.2.2.2.2.2.1 _ hw2) (hE.2.2.2.2.2.2.1 _ hw3) rfl (by rw [hE.2.2.1]; exact hl.1) rfl hd (by omega) (by omega) (K a b p e R s m args below meth c hE hn H locs la hH hS hl Z hz)
theorem E_mmax {i : Nat} {x z : Int32} (hw : Cond.methodLink y.cls i Lib.Math.max.name ∈ TG) (hw2 : Cond.static Lib.Math.max.name ∈ TG) (hw3 : Cond.initialized "java/lang/Math" ∈ TG) (hw4 : Cond.code Lib.Math.max.name Lib.Math.max.code 2 (some .int) ∈ TG) (hd : Dc cc pc (.invokestatic i) 3 pc') (hst : (st.map fun v => v.category).sum ≤ 8) (K : E Θ (d + 1) mc ms y cc nL ret cl sl n G pc' ls (.int (if x < z then z else x) :: st) Q) : E Θ (d + 1) mc ms y cc nL ret cl sl n G pc ls (.int z :: .int x :: st) Q := by
  obtain ⟨hd, rfl⟩ := hd
  intro a b p e R s m args below meth c hE hn H locs la hH hS hl Z hz
  have hr := hE.2.2.2.2.2.2.2.2.2.2.1
  exact va_mmax hE.1 hE.2.1 (by rw [hE.2.2.1]; exact hl.1.symm) hE.2.2.2.2.2.1 (hE.2.2.2.2.2.2.1 _ hw) (hE.2.2.2.2.2.2.1 _ hw2) (hE.2.2.2.2.2.2.1 _ hw3) (hE.2.2.2.2.2.2.1 _ hw4) (by omega) (by omega) (by omega) (by omega) hd (K a b p e R s m args below meth c hE hn H locs la hH hS hl Z hz)
theorem E_mmin {i : Nat} {x z : Int32} (hw : Cond.methodLink y.cls i Lib.Math.min.name ∈ TG) (hw2 : Cond.static Lib.Math.min.name ∈ TG) (hw3 : Cond.initialized "java/lang/Math" ∈ TG) (hw4 : Cond.code Lib.Math.min.name Lib.Math.min.code 2 (some .int) ∈ TG) (hd : Dc cc pc (.invokestatic i) 3 pc') (hst : (st.map fun v => v.category).sum ≤ 8) (K : E Θ (d + 1) mc ms y cc nL ret cl sl n G pc' ls (.int (if z < x then z else x) :: st) Q) : E Θ (d + 1) mc ms y cc nL ret cl sl n G pc ls (.int z :: .int x :: st) Q := by
  obtain ⟨hd, rfl⟩ := hd
  intro a b p e R s m args below meth c hE hn H locs la hH hS hl Z hz
  have hr := hE.2.2.2.2.2.2.2.2.2.2.1
  exact va_mmin hE.1 hE.2.1 (by rw [hE.2.2.1]; exact hl.1.symm) hE.2.2.2.2.2.1 (hE.2.2.2.2.2.2.1 _ hw) (hE.2.2.2.2.2.2.1 _ hw2) (hE.2.2.2.2.2.2.1 _ hw3) (hE.2.2.2.2.2.2.1 _ hw4) (by omega) (by omega) (by omega) (by omega) hd (K a b p e R s m args below meth c hE hn H locs la hH hS hl Z hz)
theorem E_mabs {i : Nat} {x : Int32} (hw : Cond.methodLink y.cls i Lib.Math.abs.name ∈ TG) (hw2 : Cond.static Lib.Math.abs.name ∈ TG) (hw3 : Cond.initialized "java/lang/Math" ∈ TG) (hw4 : Cond.code Lib.Math.abs.name Lib.Math.abs.code 1 (some .int) ∈ TG) (hd : Dc cc pc (.invokestatic i) 3 pc') (hst : (st.map fun v => v.category).sum ≤ 8) (K : E Θ (d + 1) mc ms y cc nL ret cl sl n G pc' ls (.int (if 0 ≤ x then x else 0 - x) :: st) Q) : E Θ (d + 1) mc ms y cc nL ret cl sl n G pc ls (.int x :: st) Q := by
  obtain ⟨hd, rfl⟩ := hd
  intro a b p e R s m args below meth c hE hn H locs la hH hS hl Z hz
  have hr := hE.2.2.2.2.2.2.2.2.2.2.1
  exact va_mabs hE.1 hE.2.1 (by rw [hE.2.2.1]; exact hl.1.symm) hE.2.2.2.2.2.1 (hE.2.2.2.2.2.2.1 _ hw) (hE.2.2.2.2.2.2.1 _ hw2) (hE.2.2.2.2.2.2.1 _ hw3) (hE.2.2.2.2.2.2.1 _ hw4) (by omega) (by omega) (by omega) (by omega) hd (K a b p e R s m args below meth c hE hn H locs la hH hS hl Z hz)
theorem E_copy {i k0 k n0 n1 sp dp len : Nat} {x1 x2 x3 : Int32} {f g : Nat → Int32} (hw : Cond.methodLink y.cls i arraycopyName ∈ TG) (hw1 : Cond.native arraycopyName ∈ TG) (hw2 : Cond.static arraycopyName ∈ TG) (hw3 : Cond.initialized "java/lang/System" ∈ TG) (hd : Dc cc pc (.invokestatic i) 3 pc') (hst : (st.map fun v => v.category).sum ≤ 8) (hk0 : k0 < n) (hG0 : G k0 = iA Θ 0 n0 f) (hk : k < n) (hG : G k = iA Θ 0 n1 g) (e1 : x1 = nI sp) (e2 : x2 = nI dp) (e3 : x3 = nI len) (h4 : sp + len ≤ n0) (h5 : dp + len ≤ n1) (hb0 : n0 < 2 ^ 31) (hb1 : n1 < 2 ^ 31) (K : E Θ (d + 1) mc ms y cc nL ret cl sl n (va_up G k (iA Θ 0 n1 (va_cpy f g sp dp len))) pc' ls st Q) : E Θ (d + 1) mc ms y cc nL ret cl sl n G pc ls (.int x3 :: .int x2 :: .ref (tb Θ + k) :: .int x1 :: .ref (tb Θ + k0) :: st) Q := by
  obtain ⟨hd, rfl⟩ := hd
  subst e1; subst e2; subst e3
  intro a b p e R s m args below meth c hE hn H locs la hH hS hl Z hz
  have hr := hE.2.2.2.2.2.2.2.2.2.2.1
  have c1 := nI_clamp (n := sp) (by omega)
  have c2 := nI_clamp (n := dp) (by omega)
  have c3 := nI_clamp (n := len) (by omega)
  refine va_copyi hE.1 hE.2.1 (by rw [hE.2.2.1]; exact hl.1.symm) hE.2.2.2.2.2.1 (hE.2.2.2.2.2.2.1 _ hw) (hE.2.2.2.2.2.2.1 _ hw1) (hE.2.2.2.2.2.2.1 _ hw2) (hE.2.2.2.2.2.2.1 _ hw3) hE.2.2.2.2.2.2.2.1.1 hH wl_D hS k0 k 0 0 (wl_at hk0 hG0) (wl_at hk hG) rfl rfl rfl (nI_pos (by omega)) (nI_pos (by omega)) (nI_pos (by omega)) (by omega) (by omega) (fun _ _ => rfl) (by omega) ?_ hd (fun H1 locs1 h1 h2 h3 => ?_)
  · have : nativeFrameWords "java/lang/System" "arraycopy" 5 ≤ 30 := by decide +kernel
    omega
  · rw [c1, c2, c3] at h1
    exact (K a b p e R s m args below meth c hE hn H1 locs1 la (Hs.up hk h1) h3 hl Z hz)
end Heap
end
section
/-! calls -/
theorem GI_code {y : MethodName} {cc : ByteArray} {nL : Nat} {ret : Option FieldType} (h : Cond.code y cc nL ret ∈ TG) : GoodIn TG (Cond.code y cc nL ret :: TG) := fun w hw => by
  rcases List.mem_cons.mp hw with rfl | hw
  · exact ⟨h, (TG_good h).2⟩
  · exact ⟨hw, (TG_good hw).2⟩
theorem GI_app {a b : List Cond} (ha : GoodIn TG a) (hb : GoodIn TG b) : GoodIn TG (a ++ b) := fun w h => (List.mem_append.mp h).elim (ha w) (hb w)
def pdn (y : MethodName) (k : Nat) : Prop := y.cls ≠ "java/lang/invoke/MethodHandle" ∧ y.cls ≠ "java/lang/invoke/VarHandle" ∧ (parseMethodDescriptor y.desc).map (fun d => d.parameters.length) = some k
/-- the link of a call of y in the class own by the number i -/
def ML (own : String) (i : Nat) (y : MethodName) : Prop := Cond.methodLink own i y ∈ TG ∨ ∃ host, Cond.methodLinkNest own i y host ∈ lw_tbl
def SOk (own : String) (i : Nat) (y : MethodName) (cc : ByteArray) (nL : Nat) (ret : Option FieldType) (k : Nat) : Prop := ML own i y ∧ Cond.static y ∈ TG ∧ Cond.initialized y.cls ∈ TG ∧ Cond.code y cc nL ret ∈ TG ∧ pdn y k ∧ nL ≤ 20
def IOk (own : String) (i : Nat) (y : MethodName) (cc : ByteArray) (nL : Nat) (k : Nat) : Prop := ML own i y ∧ Cond.instanceMethod y ∈ TG ∧ Cond.initialized y.cls ∈ TG ∧ Cond.code y cc nL none ∈ TG ∧ pdn y k ∧ nL ≤ 20 ∧ y.name = "<init>"
def UOk (own : String) (i : Nat) (y : MethodName) (cc : ByteArray) (nL : Nat) (ret : Option FieldType) (k : Nat) : Prop := GoodIn TG (va_wsSU own i y []) ∧ Cond.code y cc nL ret ∈ TG ∧ (y.name ≠ "<init>" ∧ (parseMethodDescriptor y.desc).map (fun d => d.parameters.length) = some k) ∧ nL ≤ 20
/-- a virtual call on an object of class ci comes to y -/
def VOk (own : String) (i ci : Nat) (y : MethodName) (cc : ByteArray) (nL : Nat) (ret : Option FieldType) (k : Nat) : Prop := ∃ r : vw_C, vwCl[ci]? = some r ∧ Cond.code y cc nL ret ∈ TG ∧ nL ≤ 20 ∧ ((ML own i y ∧ Cond.instanceMethod y ∈ TG ∧ Cond.initialized y.cls ∈ TG ∧ Cond.selects r.1 y y ∈ TG ∧ pdn y k) ∨ ∃ (x : MethodName) (owner : String) (b0 : ByteArray) (m0 : Nat) (r0 : Option FieldType), GoodIn TG (va_wsO own i r.1 owner x y []) ∧ Cond.code ⟨owner, x.name, x.desc⟩ b0 m0 r0 ∈ TG ∧ (owner ≠ "java/lang/invoke/MethodHandle" ∧ owner ≠ "java/lang/invoke/VarHandle" ∧ (parseMethodDescriptor x.desc).map (fun d => d.parameters.length) = some k))
section Calls
variable {Θ : Th} {d mc ms : Nat} {y : MethodName} {cc : ByteArray} {nL : Nat} {ret : Option FieldType} {cl sl n : Nat} {G : HP} {pc pc' : Nat} {ls : LV} {st : List Value} {Q : QT} {mc' ms' : Nat} {y' : MethodName} {cc' : ByteArray} {nL' : Nat} {ret' : Option FieldType} {As rest : List Value} {Q' : QT} {i ci k : Nat}
theorem E_fin {p : Program} {e : Env} {R : Room} {s : State} {m : MethodId} {args : Array Value} {below : List Frame} {meth : Method} {c : Code} {H : Heap} {locs : List Loc} {la : Array Slot} {Z : State → Prop} {av : Array Value} {st0 : List Value} {T0 : State}
    (hrun : va_Run p (tL Θ) e R s m args below meth c H locs cl sl mc' ms' (F0 m pc la st0) rest (Qc Θ (n + mc') Q' av) (AA Θ)) (hT : T0.heap = H) (X : Stand p (tL Θ) e R s m args below meth c T0 locs cl sl) (hb : tb Θ ≤ s.heap.size) (hS : va_S (AA Θ) s.heap H locs)
    (K : ∀ (v : Option Int32) (G' : HP) (H1 : Heap) (locs1 : List Loc), Q' v G' → Hs Θ (n + mc') G' H1 → va_S (AA Θ) s.heap H1 locs1 → W p (tL Θ) e R s m args below meth c H1 locs1 (cl + mc') (sl + ms') Z (F0 m (pc + 3) la (rv v ++ rest))) : ∃ t, Steps p.tables e below (T0.setTop (F0 m pc la st0)) t ∧ Z t := by
  obtain ⟨v, st₀, t, T', L, h0, X', hL, e1, e2, ⟨v', G', hv, hQ, hH', hF⟩, hst⟩ := hrun T0 hT X
  have hv2 : v = v'.map Value.int := by injection hv
  subst hv2
  have hS' : va_S (AA Θ) s.heap T'.heap (locs ++ L) := by
    refine ⟨?_, fun q h1 h2 => ?_, fun q hq => ?_⟩
    · rw [e1]
      exact Nat.le_trans hS.1 (by rw [← h0]; exact hF.1)
    · rw [e1, hF.2 q (by rw [h0]; exact Nat.lt_of_lt_of_le h1 hS.1) h2, h0]
      exact hS.2.1 q h1 h2
    · rcases List.mem_append.mp hq with h | h
      · exact hS.2.2 q h
      · exact hL q h
  obtain ⟨t2, a1, b1⟩ := K v' G' T'.heap (locs ++ L) hQ (by rw [e1]; exact hH') hS' T' rfl X'
  refine ⟨t2, hst t2 ?_, b1⟩
  cases v' with
  | none => exact a1
  | some r => exact a1
theorem E_pre {s : State} {H : Heap} {locs : List Loc} (hsz : H.size = tb Θ + n) (hH : Hs Θ n G H) (hU : Uw Θ s) (hX : tX Θ s s.heap) (hb : tb Θ ≤ s.heap.size) (hS : va_S (AA Θ) s.heap H locs) : ∀ U : State, U.heap = H → s.WarmedH U.vm → va_Pc As (Pr Θ n G) As.toArray U := by
  intro U hU0 hW
  refine ⟨rfl, by rw [hU0]; exact hsz, by rw [hU0]; exact hH, hU.warm hW, ?_⟩
  rw [hU0]
  exact hU.2.2.2 s U H hW.alike (hU.2.2.1 s s.heap H (fun q hq => hS.2.1 q (Nat.lt_of_lt_of_le hq hb) (Nat.not_le.mpr hq)) hX)
theorem E_S (hk : SOk y.cls i y' cc' nL' ret' k) (hd : Dc cc pc (.invokestatic i) 3 pc') (hn0 : As.length = k) (hst : (rest.map fun v => v.category).sum ≤ 8) (hM : C Θ d mc' ms' y' cc' nL' ret' As n G Q') (hc1 : cl + mc' ≤ mc) (hs1 : sl + ms' ≤ ms) (K : ∀ v G', Q' v G' → E Θ (d + 1) mc ms y cc nL ret (cl + mc') (sl + ms') (n + mc') G' pc' ls (rv v ++ rest) Q) : E Θ (d + 1) mc ms y cc nL ret cl sl n G pc ls (As.reverse ++ rest) Q := by
  obtain ⟨hd, rfl⟩ := hd
  intro a b p e R s m args below meth c hE hn H locs la hH hS hl Z hz
  intro T0 hT X
  have hu : H.size ≤ s.heap.size + cl := by rw [← hT]; exact X.same.2.2.1
  have hsz := hH.sz hn hE.2.2.2.2.2.2.2.2.2.1 hS hu
  have hr := hE.2.2.2.2.2.2.2.2.2.2.1
  obtain ⟨hw1, hw2, hw3, hw4, hp, h20⟩ := hk
  have hrm : (rmO d mc' ms').frames + 1 ≤ R.frames ∧ 8 + (nL' + 11) + (rmO d mc' ms').locals ≤ R.locals := ⟨hr.1, by show 8 + (nL' + 11) + 50 * d ≤ _; omega⟩
  obtain hw1 | ⟨host, hw1⟩ := hw1
  · exact E_fin (va_runS ⟨hE.1, hE.2.1, hE.2.2.1, hE.2.2.2.2.2.1, hE.2.2.2.2.2.2.1⟩ hM ⟨callB_of k hE.2.2.2.2.2.2.1 (GI_code hw4) rfl rfl rfl (hE.2.2.2.2.2.2.1 _ hw3) (hE.2.2.2.2.2.2.1 _ hw1) hp hrm, hE.2.2.2.2.2.2.1 _ hw2⟩ ⟨Pr.blind, E_pre (As := As) hsz hH hE.2.2.2.2.2.2.2.1 hE.2.2.2.2.2.2.2.2.1 hE.2.2.2.2.2.2.2.2.2.1 hS⟩ rfl hn0 hl.1 rfl (lv_room hst) hd ⟨by omega, by omega⟩) hT X hE.2.2.2.2.2.2.2.2.2.1 hS (fun v G' H1 locs1 hq h1 h2 => K v G' hq hc1 hs1 p e R s m args below meth c hE (by omega) H1 locs1 la h1 h2 hl Z hz)
  · exact E_fin (va_runSN ⟨hE.1, hE.2.1, hE.2.2.1, hE.2.2.2.2.2.1, hE.2.2.2.2.2.2.1⟩ hM ⟨va_cnB k hE.2.2.2.2.2.2.1 (GI_code hw4) rfl rfl rfl (hE.2.2.2.2.2.2.2.1.2.1.1 _ hw1 rfl) (hE.2.2.2.2.2.2.1 _ hw3) hp hrm, hE.2.2.2.2.2.2.1 _ hw2, trivial⟩ ⟨Pr.blind, E_pre (As := As) hsz hH hE.2.2.2.2.2.2.2.1 hE.2.2.2.2.2.2.2.2.1 hE.2.2.2.2.2.2.2.2.2.1 hS⟩ rfl hn0 hl.1 rfl (lv_room hst) hd ⟨by omega, by omega⟩) hT X hE.2.2.2.2.2.2.2.2.2.1 hS (fun v G' H1 locs1 hq h1 h2 => K v G' hq hc1 hs1 p e R s m args below meth c hE (by omega) H1 locs1 la h1 h2 hl Z hz)
theorem E_I {kb : Nat} (hk : IOk y.cls i y' cc' nL' k) (hd : Dc cc pc (.invokespecial i) 3 pc') (hn0 : As.length = k) (hst : (rest.map fun v => v.category).sum ≤ 8) (hM : C Θ d mc' ms' y' cc' nL' none (.ref kb :: As) n G Q') (hc1 : cl + mc' ≤ mc) (hs1 : sl + ms' ≤ ms) (K : ∀ v G', Q' v G' → E Θ (d + 1) mc ms y cc nL ret (cl + mc') (sl + ms') (n + mc') G' pc' ls (rv v ++ rest) Q) : E Θ (d + 1) mc ms y cc nL ret cl sl n G pc ls (As.reverse ++ .ref kb :: rest) Q := by
  obtain ⟨hd, rfl⟩ := hd
  intro a b p e R s m args below meth c hE hn H locs la hH hS hl Z hz
  intro T0 hT X
  have hu : H.size ≤ s.heap.size + cl := by rw [← hT]; exact X.same.2.2.1
  have hsz := hH.sz hn hE.2.2.2.2.2.2.2.2.2.1 hS hu
  have hr := hE.2.2.2.2.2.2.2.2.2.2.1
  obtain ⟨hw1, hw2, hw3, hw4, hp, h20, hin⟩ := hk
  have hrm : (rmO d mc' ms').frames + 1 ≤ R.frames ∧ 8 + (nL' + 11) + (rmO d mc' ms').locals ≤ R.locals := ⟨hr.1, by show 8 + (nL' + 11) + 50 * d ≤ _; omega⟩
  obtain hw1 | ⟨host, hw1⟩ := hw1
  · exact E_fin (va_runI ⟨hE.1, hE.2.1, hE.2.2.1, hE.2.2.2.2.2.1, hE.2.2.2.2.2.2.1⟩ hM ⟨callB_of k hE.2.2.2.2.2.2.1 (GI_code hw4) rfl rfl rfl (hE.2.2.2.2.2.2.1 _ hw3) (hE.2.2.2.2.2.2.1 _ hw1) hp hrm, hin, hE.2.2.2.2.2.2.1 _ hw2⟩ ⟨Pr.blind, E_pre (As := .ref kb :: As) hsz hH hE.2.2.2.2.2.2.2.1 hE.2.2.2.2.2.2.2.2.1 hE.2.2.2.2.2.2.2.2.2.1 hS⟩ rfl hn0 hl.1 rfl (lv_room hst) hd ⟨by omega, by omega⟩) hT X hE.2.2.2.2.2.2.2.2.2.1 hS (fun v G' H1 locs1 hq h1 h2 => K v G' hq hc1 hs1 p e R s m args below meth c hE (by omega) H1 locs1 la h1 h2 hl Z hz)
  · exact E_fin (va_runIN ⟨hE.1, hE.2.1, hE.2.2.1, hE.2.2.2.2.2.1, hE.2.2.2.2.2.2.1⟩ hM ⟨va_cnB k hE.2.2.2.2.2.2.1 (GI_code hw4) rfl rfl rfl (hE.2.2.2.2.2.2.2.1.2.1.1 _ hw1 rfl) (hE.2.2.2.2.2.2.1 _ hw3) hp hrm, hin, hE.2.2.2.2.2.2.1 _ hw2⟩ ⟨Pr.blind, E_pre (As := .ref kb :: As) hsz hH hE.2.2.2.2.2.2.2.1 hE.2.2.2.2.2.2.2.2.1 hE.2.2.2.2.2.2.2.2.2.1 hS⟩ rfl hn0 hl.1 rfl (lv_room hst) hd ⟨by omega, by omega⟩) hT X hE.2.2.2.2.2.2.2.2.2.1 hS (fun v G' H1 locs1 hq h1 h2 => K v G' hq hc1 hs1 p e R s m args below meth c hE (by omega) H1 locs1 la h1 h2 hl Z hz)
theorem E_V {kb : Nat} {fs : List Value} (hk : VOk y.cls i ci y' cc' nL' ret' k) (hd : Dc cc pc (.invokevirtual i) 3 pc') (hn0 : As.length = k) (hst : (rest.map fun v => v.category).sum ≤ 8) (hkb : kb < n) (hGb : G kb = .inr (ci, fs)) (hM : C Θ d mc' ms' y' cc' nL' ret' (.ref (tb Θ + kb) :: As) n G Q') (hc1 : cl + mc' ≤ mc) (hs1 : sl + ms' ≤ ms) (K : ∀ v G', Q' v G' → E Θ (d + 1) mc ms y cc nL ret (cl + mc') (sl + ms') (n + mc') G' pc' ls (rv v ++ rest) Q) : E Θ (d + 1) mc ms y cc nL ret cl sl n G pc ls (As.reverse ++ .ref (tb Θ + kb) :: rest) Q := by
  obtain ⟨hd, rfl⟩ := hd
  intro a b p e R s m args below meth c hE hn H locs la hH hS hl Z hz
  intro T0 hT X
  have hu : H.size ≤ s.heap.size + cl := by rw [← hT]; exact X.same.2.2.1
  have hsz := hH.sz hn hE.2.2.2.2.2.2.2.2.2.1 hS hu
  have hr := hE.2.2.2.2.2.2.2.2.2.2.1
  obtain ⟨r, hrc0, hw4, h20, hk⟩ := hk
  have hrm : (rmO d mc' ms').frames + 1 ≤ R.frames ∧ 8 + (nL' + 11) + (rmO d mc' ms').locals ≤ R.locals := ⟨hr.1, by show 8 + (nL' + 11) + 50 * d ≤ _; omega⟩
  obtain ⟨hw1 | ⟨host, hw1⟩, hw2, hw3, hw5, hp⟩ | ⟨x, owner, b0, m0, r0, hgo, h0, hp⟩ := hk
  · exact E_fin (va_runV ⟨hE.1, hE.2.1, hE.2.2.1, hE.2.2.2.2.2.1, hE.2.2.2.2.2.2.1⟩ hM ⟨callB_of k hE.2.2.2.2.2.2.1 (GI_code hw4) rfl rfl rfl (hE.2.2.2.2.2.2.1 _ hw3) (hE.2.2.2.2.2.2.1 _ hw1) hp hrm, hE.2.2.2.2.2.2.1 _ hw2, hE.2.2.2.2.2.2.1 _ hw5⟩ ⟨Pr.blind, va_recv hE.2.2.2.2.2.2.2.1.1 hH hrc0 (wl_at hkb hGb), E_pre (As := .ref (tb Θ + kb) :: As) hsz hH hE.2.2.2.2.2.2.2.1 hE.2.2.2.2.2.2.2.2.1 hE.2.2.2.2.2.2.2.2.2.1 hS⟩ rfl hn0 hl.1 rfl (lv_room hst) hd ⟨by omega, by omega⟩) hT X hE.2.2.2.2.2.2.2.2.2.1 hS (fun v G' H1 locs1 hq h1 h2 => K v G' hq hc1 hs1 p e R s m args below meth c hE (by omega) H1 locs1 la h1 h2 hl Z hz)
  · exact E_fin (va_runVN ⟨hE.1, hE.2.1, hE.2.2.1, hE.2.2.2.2.2.1, hE.2.2.2.2.2.2.1⟩ hM ⟨va_cnB k hE.2.2.2.2.2.2.1 (GI_code hw4) rfl rfl rfl (hE.2.2.2.2.2.2.2.1.2.1.1 _ hw1 rfl) (hE.2.2.2.2.2.2.1 _ hw3) hp hrm, hE.2.2.2.2.2.2.1 _ hw2, hE.2.2.2.2.2.2.1 _ hw5⟩ ⟨Pr.blind, va_recv hE.2.2.2.2.2.2.2.1.1 hH hrc0 (wl_at hkb hGb), E_pre (As := .ref (tb Θ + kb) :: As) hsz hH hE.2.2.2.2.2.2.2.1 hE.2.2.2.2.2.2.2.2.1 hE.2.2.2.2.2.2.2.2.2.1 hS⟩ rfl hn0 hl.1 rfl (lv_room hst) hd ⟨by omega, by omega⟩) hT X hE.2.2.2.2.2.2.2.2.2.1 hS (fun v G' H1 locs1 hq h1 h2 => K v G' hq hc1 hs1 p e R s m args below meth c hE (by omega) H1 locs1 la h1 h2 hl Z hz)
  · have hgo2 : GoodIn TG (va_wsO y.cls i r.1 owner x y' (Cond.code y' cc' nL' ret' :: TG)) := by
      have h9 := GI_app hgo (GI_code hw4)
      simpa [va_wsO] using h9
    exact E_fin (va_runU ⟨hE.1, hE.2.1, hE.2.2.1, hE.2.2.2.2.2.1, hE.2.2.2.2.2.2.1⟩ hM (va_cwO k hE.2.2.2.2.2.2.1 hgo2 rfl rfl rfl h0 hp hrm) ⟨Pr.blind, va_recv hE.2.2.2.2.2.2.2.1.1 hH hrc0 (wl_at hkb hGb), E_pre (As := .ref (tb Θ + kb) :: As) hsz hH hE.2.2.2.2.2.2.2.1 hE.2.2.2.2.2.2.2.2.1 hE.2.2.2.2.2.2.2.2.2.1 hS⟩ rfl hn0 hl.1 rfl (lv_room hst) hd ⟨by omega, by omega⟩) hT X hE.2.2.2.2.2.2.2.2.2.1 hS (fun v G' H1 locs1 hq h1 h2 => K v G' hq hc1 hs1 p e R s m args below meth c hE (by omega) H1 locs1 la h1 h2 hl Z hz)
theorem E_U {kb : Nat} {fs : List Value} {r : vw_C} (hk : UOk y.cls i y' cc' nL' ret' k) (hd : Dc cc pc (.invokespecial i) 3 pc') (hn0 : As.length = k) (hst : (rest.map fun v => v.category).sum ≤ 8) (hkb : kb < n) (hGb : G kb = .inr (ci, fs)) (hrc0 : vwCl[ci]? = some r) (hM : C Θ d mc' ms' y' cc' nL' ret' (.ref (tb Θ + kb) :: As) n G Q') (hc1 : cl + mc' ≤ mc) (hs1 : sl + ms' ≤ ms) (K : ∀ v G', Q' v G' → E Θ (d + 1) mc ms y cc nL ret (cl + mc') (sl + ms') (n + mc') G' pc' ls (rv v ++ rest) Q) : E Θ (d + 1) mc ms y cc nL ret cl sl n G pc ls (As.reverse ++ .ref (tb Θ + kb) :: rest) Q := by
  obtain ⟨hd, rfl⟩ := hd
  intro a b p e R s m args below meth c hE hn H locs la hH hS hl Z hz
  intro T0 hT X
  have hu : H.size ≤ s.heap.size + cl := by rw [← hT]; exact X.same.2.2.1
  have hsz := hH.sz hn hE.2.2.2.2.2.2.2.2.2.1 hS hu
  have hr := hE.2.2.2.2.2.2.2.2.2.2.1
  obtain ⟨hgo, hw4, hp, h20⟩ := hk
  have hrm : (rmO d mc' ms').frames + 1 ≤ R.frames ∧ 8 + (nL' + 11) + (rmO d mc' ms').locals ≤ R.locals := ⟨hr.1, by show 8 + (nL' + 11) + 50 * d ≤ _; omega⟩
  have hgo2 : GoodIn TG (va_wsSU y.cls i y' (Cond.code y' cc' nL' ret' :: TG)) := by
    have h9 := GI_app hgo (GI_code hw4)
    simpa [va_wsSU] using h9
  exact E_fin (va_runSU (hE.2.2.2.2.2.2.2.1.1.1 ci _ hrc0).2 ⟨hE.1, hE.2.1, hE.2.2.1, hE.2.2.2.2.2.1, hE.2.2.2.2.2.2.1⟩ hM (va_cwSU k hE.2.2.2.2.2.2.1 hgo2 rfl rfl rfl hp hrm) ⟨Pr.blind, va_recv hE.2.2.2.2.2.2.2.1.1 hH hrc0 (wl_at hkb hGb), E_pre (As := .ref (tb Θ + kb) :: As) hsz hH hE.2.2.2.2.2.2.2.1 hE.2.2.2.2.2.2.2.2.1 hE.2.2.2.2.2.2.2.2.2.1 hS⟩ rfl hn0 hl.1 rfl (lv_room hst) hd ⟨by omega, by omega⟩) hT X hE.2.2.2.2.2.2.2.2.2.1 hS (fun v G' H1 locs1 hq h1 h2 => K v G' hq hc1 hs1 p e R s m args below meth c hE (by omega) H1 locs1 la h1 h2 hl Z hz)
theorem E_S0i (hk : SOk y.cls i y' cc' nL' ret' 0) (hd : Dc cc pc (.invokestatic i) 3 pc') (hst : (st.map fun v => v.category).sum ≤ 8) (K : C Θ d 0 0 y' cc' nL' ret' [] n G (Qi (fun r G' => E Θ (d + 1) mc ms y cc nL ret cl sl n G' pc' ls (.int r :: st) Q))) : E Θ (d + 1) mc ms y cc nL ret cl sl n G pc ls (st) Q := fun a b => E_S (As := []) hk hd rfl hst K a b (fun v G' hq => by
    cases v with
    | none => exact hq.elim
    | some r => exact hq) a b
theorem E_V0i {kb : Nat} {fs : List Value} (hk : VOk y.cls i ci y' cc' nL' ret' 0) (hd : Dc cc pc (.invokevirtual i) 3 pc') (hst : (st.map fun v => v.category).sum ≤ 8) (hkb : kb < n) (hGb : G kb = .inr (ci, fs)) (K : C Θ d 0 0 y' cc' nL' ret' (.ref (tb Θ + kb) :: []) n G (Qi (fun r G' => E Θ (d + 1) mc ms y cc nL ret cl sl n G' pc' ls (.int r :: st) Q))) : E Θ (d + 1) mc ms y cc nL ret cl sl n G pc ls (.ref (tb Θ + kb) :: st) Q := fun a b => E_V (As := []) hk hd rfl hst hkb hGb K a b (fun v G' hq => by
    cases v with
    | none => exact hq.elim
    | some r => exact hq) a b
theorem E_U0i {kb : Nat} {fs : List Value} {r0 : vw_C} (hk : UOk y.cls i y' cc' nL' ret' 0) (hd : Dc cc pc (.invokespecial i) 3 pc') (hst : (st.map fun v => v.category).sum ≤ 8) (hkb : kb < n) (hGb : G kb = .inr (ci, fs)) (hrc0 : vwCl[ci]? = some r0) (K : C Θ d 0 0 y' cc' nL' ret' (.ref (tb Θ + kb) :: []) n G (Qi (fun r G' => E Θ (d + 1) mc ms y cc nL ret cl sl n G' pc' ls (.int r :: st) Q))) : E Θ (d + 1) mc ms y cc nL ret cl sl n G pc ls (.ref (tb Θ + kb) :: st) Q := fun a b => E_U (As := []) hk hd rfl hst hkb hGb hrc0 K a b (fun v G' hq => by
    cases v with
    | none => exact hq.elim
    | some r => exact hq) a b
theorem E_S0v (hk : SOk y.cls i y' cc' nL' ret' 0) (hd : Dc cc pc (.invokestatic i) 3 pc') (hst : (st.map fun v => v.category).sum ≤ 8) (K : C Θ d 0 0 y' cc' nL' ret' [] n G (Qv (fun G' => E Θ (d + 1) mc ms y cc nL ret cl sl n G' pc' ls st Q))) : E Θ (d + 1) mc ms y cc nL ret cl sl n G pc ls (st) Q := fun a b => E_S (As := []) hk hd rfl hst K a b (fun v G' hq => by
    cases v with
    | none => exact hq
    | some r => exact hq.elim) a b
theorem E_V0v {kb : Nat} {fs : List Value} (hk : VOk y.cls i ci y' cc' nL' ret' 0) (hd : Dc cc pc (.invokevirtual i) 3 pc') (hst : (st.map fun v => v.category).sum ≤ 8) (hkb : kb < n) (hGb : G kb = .inr (ci, fs)) (K : C Θ d 0 0 y' cc' nL' ret' (.ref (tb Θ + kb) :: []) n G (Qv (fun G' => E Θ (d + 1) mc ms y cc nL ret cl sl n G' pc' ls st Q))) : E Θ (d + 1) mc ms y cc nL ret cl sl n G pc ls (.ref (tb Θ + kb) :: st) Q := fun a b => E_V (As := []) hk hd rfl hst hkb hGb K a b (fun v G' hq => by
    cases v with
    | none => exact hq
    | some r => exact hq.elim) a b
theorem E_S1i {v0 : Value} (hk : SOk y.cls i y' cc' nL' ret' 1) (hd : Dc cc pc (.invokestatic i) 3 pc') (hst : (st.map fun v => v.category).sum ≤ 8) (K : C Θ d 0 0 y' cc' nL' ret' [v0] n G (Qi (fun r G' => E Θ (d + 1) mc ms y cc nL ret cl sl n G' pc' ls (.int r :: st) Q))) : E Θ (d + 1) mc ms y cc nL ret cl sl n G pc ls (v0 :: st) Q := fun a b => E_S (As := [v0]) hk hd rfl hst K a b (fun v G' hq => by
    cases v with
    | none => exact hq.elim
    | some r => exact hq) a b
theorem E_V1i {kb : Nat} {fs : List Value} {v0 : Value} (hk : VOk y.cls i ci y' cc' nL' ret' 1) (hd : Dc cc pc (.invokevirtual i) 3 pc') (hst : (st.map fun v => v.category).sum ≤ 8) (hkb : kb < n) (hGb : G kb = .inr (ci, fs)) (K : C Θ d 0 0 y' cc' nL' ret' (.ref (tb Θ + kb) :: [v0]) n G (Qi (fun r G' => E Θ (d + 1) mc ms y cc nL ret cl sl n G' pc' ls (.int r :: st) Q))) : E Θ (d + 1) mc ms y cc nL ret cl sl n G pc ls (v0 :: .ref (tb Θ + kb) :: st) Q := fun a b => E_V (As := [v0]) hk hd rfl hst hkb hGb K a b (fun v G' hq => by
    cases v with
    | none => exact hq.elim
    | some r => exact hq) a b
theorem E_U1i {kb : Nat} {fs : List Value} {r0 : vw_C} {v0 : Value} (hk : UOk y.cls i y' cc' nL' ret' 1) (hd : Dc cc pc (.invokespecial i) 3 pc') (hst : (st.map fun v => v.category).sum ≤ 8) (hkb : kb < n) (hGb : G kb = .inr (ci, fs)) (hrc0 : vwCl[ci]? = some r0) (K : C Θ d 0 0 y' cc' nL' ret' (.ref (tb Θ + kb) :: [v0]) n G (Qi (fun r G' => E Θ (d + 1) mc ms y cc nL ret cl sl n G' pc' ls (.int r :: st) Q))) : E Θ (d + 1) mc ms y cc nL ret cl sl n G pc ls (v0 :: .ref (tb Θ + kb) :: st) Q := fun a b => E_U (As := [v0]) hk hd rfl hst hkb hGb hrc0 K a b (fun v G' hq => by
    cases v with
    | none => exact hq.elim
    | some r => exact hq) a b
theorem E_S1v {v0 : Value} (hk : SOk y.cls i y' cc' nL' ret' 1) (hd : Dc cc pc (.invokestatic i) 3 pc') (hst : (st.map fun v => v.category).sum ≤ 8) (K : C Θ d 0 0 y' cc' nL' ret' [v0] n G (Qv (fun G' => E Θ (d + 1) mc ms y cc nL ret cl sl n G' pc' ls st Q))) : E Θ (d + 1) mc ms y cc nL ret cl sl n G pc ls (v0 :: st) Q := fun a b => E_S (As := [v0]) hk hd rfl hst K a b (fun v G' hq => by
    cases v with
    | none => exact hq
    | some r => exact hq.elim) a b
theorem E_V1v {kb : Nat} {fs : List Value} {v0 : Value} (hk : VOk y.cls i ci y' cc' nL' ret' 1) (hd : Dc cc pc (.invokevirtual i) 3 pc') (hst : (st.map fun v => v.category).sum ≤ 8) (hkb : kb < n) (hGb : G kb = .inr (ci, fs)) (K : C Θ d 0 0 y' cc' nL' ret' (.ref (tb Θ + kb) :: [v0]) n G (Qv (fun G' => E Θ (d + 1) mc ms y cc nL ret cl sl n G' pc' ls st Q))) : E Θ (d + 1) mc ms y cc nL ret cl sl n G pc ls (v0 :: .ref (tb Θ + kb) :: st) Q := fun a b => E_V (As := [v0]) hk hd rfl hst hkb hGb K a b (fun v G' hq => by
    cases v with
    | none => exact hq
    | some r => exact hq.elim) a b
theorem E_S2i {v0 v1 : Value} (hk : SOk y.cls i y' cc' nL' ret' 2) (hd : Dc cc pc (.invokestatic i) 3 pc') (hst : (st.map fun v => v.category).sum ≤ 8) (K : C Θ d 0 0 y' cc' nL' ret' [v0, v1] n G (Qi (fun r G' => E Θ (d + 1) mc ms y cc nL ret cl sl n G' pc' ls (.int r :: st) Q))) : E Θ (d + 1) mc ms y cc nL ret cl sl n G pc ls (v1 :: v0 :: st) Q := fun a b => E_S (As := [v0, v1]) hk hd rfl hst K a b (fun v G' hq => by
    cases v with
    | none => exact hq.elim
    | some r => exact hq) a b
theorem E_V2i {kb : Nat} {fs : List Value} {v0 v1 : Value} (hk : VOk y.cls i ci y' cc' nL' ret' 2) (hd : Dc cc pc (.invokevirtual i) 3 pc') (hst : (st.map fun v => v.category).sum ≤ 8) (hkb : kb < n) (hGb : G kb = .inr (ci, fs)) (K : C Θ d 0 0 y' cc' nL' ret' (.ref (tb Θ + kb) :: [v0, v1]) n G (Qi (fun r G' => E Θ (d + 1) mc ms y cc nL ret cl sl n G' pc' ls (.int r :: st) Q))) : E Θ (d + 1) mc ms y cc nL ret cl sl n G pc ls (v1 :: v0 :: .ref (tb Θ + kb) :: st) Q := fun a b => E_V (As := [v0, v1]) hk hd rfl hst hkb hGb K a b (fun v G' hq => by
    cases v with
    | none => exact hq.elim
    | some r => exact hq) a b
theorem E_U2i {kb : Nat} {fs : List Value} {r0 : vw_C} {v0 v1 : Value} (hk : UOk y.cls i y' cc' nL' ret' 2) (hd : Dc cc pc (.invokespecial i) 3 pc') (hst : (st.map fun v => v.category).sum ≤ 8) (hkb : kb < n) (hGb : G kb = .inr (ci, fs)) (hrc0 : vwCl[ci]? = some r0) (K : C Θ d 0 0 y' cc' nL' ret' (.ref (tb Θ + kb) :: [v0, v1]) n G (Qi (fun r G' => E Θ (d + 1) mc ms y cc nL ret cl sl n G' pc' ls (.int r :: st) Q))) : E Θ (d + 1) mc ms y cc nL ret cl sl n G pc ls (v1 :: v0 :: .ref (tb Θ + kb) :: st) Q := fun a b => E_U (As := [v0, v1]) hk hd rfl hst hkb hGb hrc0 K a b (fun v G' hq => by
    cases v with
    | none => exact hq.elim
    | some r => exact hq) a b
theorem E_S2v {v0 v1 : Value} (hk : SOk y.cls i y' cc' nL' ret' 2) (hd : Dc cc pc (.invokestatic i) 3 pc') (hst : (st.map fun v => v.category).sum ≤ 8) (K : C Θ d 0 0 y' cc' nL' ret' [v0, v1] n G (Qv (fun G' => E Θ (d + 1) mc ms y cc nL ret cl sl n G' pc' ls st Q))) : E Θ (d + 1) mc ms y cc nL ret cl sl n G pc ls (v1 :: v0 :: st) Q := fun a b => E_S (As := [v0, v1]) hk hd rfl hst K a b (fun v G' hq => by
    cases v with
    | none => exact hq
    | some r => exact hq.elim) a b
theorem E_V2v {kb : Nat} {fs : List Value} {v0 v1 : Value} (hk : VOk y.cls i ci y' cc' nL' ret' 2) (hd : Dc cc pc (.invokevirtual i) 3 pc') (hst : (st.map fun v => v.category).sum ≤ 8) (hkb : kb < n) (hGb : G kb = .inr (ci, fs)) (K : C Θ d 0 0 y' cc' nL' ret' (.ref (tb Θ + kb) :: [v0, v1]) n G (Qv (fun G' => E Θ (d + 1) mc ms y cc nL ret cl sl n G' pc' ls st Q))) : E Θ (d + 1) mc ms y cc nL ret cl sl n G pc ls (v1 :: v0 :: .ref (tb Θ + kb) :: st) Q := fun a b => E_V (As := [v0, v1]) hk hd rfl hst hkb hGb K a b (fun v G' hq => by
    cases v with
    | none => exact hq
    | some r => exact hq.elim) a b
theorem E_S3i {v0 v1 v2 : Value} (hk : SOk y.cls i y' cc' nL' ret' 3) (hd : Dc cc pc (.invokestatic i) 3 pc') (hst : (st.map fun v => v.category).sum ≤ 8) (K : C Θ d 0 0 y' cc' nL' ret' [v0, v1, v2] n G (Qi (fun r G' => E Θ (d + 1) mc ms y cc nL ret cl sl n G' pc' ls (.int r :: st) Q))) : E Θ (d + 1) mc ms y cc nL ret cl sl n G pc ls (v2 :: v1 :: v0 :: st) Q := fun a b => E_S (As := [v0, v1, v2]) hk hd rfl hst K a b (fun v G' hq => by
    cases v with
    | none => exact hq.elim
    | some r => exact hq) a b
theorem E_V3i {kb : Nat} {fs : List Value} {v0 v1 v2 : Value} (hk : VOk y.cls i ci y' cc' nL' ret' 3) (hd : Dc cc pc (.invokevirtual i) 3 pc') (hst : (st.map fun v => v.category).sum ≤ 8) (hkb : kb < n) (hGb : G kb = .inr (ci, fs)) (K : C Θ d 0 0 y' cc' nL' ret' (.ref (tb Θ + kb) :: [v0, v1, v2]) n G (Qi (fun r G' => E Θ (d + 1) mc ms y cc nL ret cl sl n G' pc' ls (.int r :: st) Q))) : E Θ (d + 1) mc ms y cc nL ret cl sl n G pc ls (v2 :: v1 :: v0 :: .ref (tb Θ + kb) :: st) Q := fun a b => E_V (As := [v0, v1, v2]) hk hd rfl hst hkb hGb K a b (fun v G' hq => by
    cases v with
    | none => exact hq.elim
    | some r => exact hq) a b
theorem E_S3v {v0 v1 v2 : Value} (hk : SOk y.cls i y' cc' nL' ret' 3) (hd : Dc cc pc (.invokestatic i) 3 pc') (hst : (st.map fun v => v.category).sum ≤ 8) (K : C Θ d 0 0 y' cc' nL' ret' [v0, v1, v2] n G (Qv (fun G' => E Θ (d + 1) mc ms y cc nL ret cl sl n G' pc' ls st Q))) : E Θ (d + 1) mc ms y cc nL ret cl sl n G pc ls (v2 :: v1 :: v0 :: st) Q := fun a b => E_S (As := [v0, v1, v2]) hk hd rfl hst K a b (fun v G' hq => by
    cases v with
    | none => exact hq
    | some r => exact hq.elim) a b
theorem E_V3v {kb : Nat} {fs : List Value} {v0 v1 v2 : Value} (hk : VOk y.cls i ci y' cc' nL' ret' 3) (hd : Dc cc pc (.invokevirtual i) 3 pc') (hst : (st.map fun v => v.category).sum ≤ 8) (hkb : kb < n) (hGb : G kb = .inr (ci, fs)) (K : C Θ d 0 0 y' cc' nL' ret' (.ref (tb Θ + kb) :: [v0, v1, v2]) n G (Qv (fun G' => E Θ (d + 1) mc ms y cc nL ret cl sl n G' pc' ls st Q))) : E Θ (d + 1) mc ms y cc nL ret cl sl n G pc ls (v2 :: v1 :: v0 :: .ref (tb Θ + kb) :: st) Q := fun a b => E_V (As := [v0, v1, v2]) hk hd rfl hst hkb hGb K a b (fun v G' hq => by
    cases v with
    | none => exact hq
    | some r => exact hq.elim) a b
theorem E_S4i {v0 v1 v2 v3 : Value} (hk : SOk y.cls i y' cc' nL' ret' 4) (hd : Dc cc pc (.invokestatic i) 3 pc') (hst : (st.map fun v => v.category).sum ≤ 8) (K : C Θ d 0 0 y' cc' nL' ret' [v0, v1, v2, v3] n G (Qi (fun r G' => E Θ (d + 1) mc ms y cc nL ret cl sl n G' pc' ls (.int r :: st) Q))) : E Θ (d + 1) mc ms y cc nL ret cl sl n G pc ls (v3 :: v2 :: v1 :: v0 :: st) Q := fun a b => E_S (As := [v0, v1, v2, v3]) hk hd rfl hst K a b (fun v G' hq => by
    cases v with
    | none => exact hq.elim
    | some r => exact hq) a b
theorem E_V4i {kb : Nat} {fs : List Value} {v0 v1 v2 v3 : Value} (hk : VOk y.cls i ci y' cc' nL' ret' 4) (hd : Dc cc pc (.invokevirtual i) 3 pc') (hst : (st.map fun v => v.category).sum ≤ 8) (hkb : kb < n) (hGb : G kb = .inr (ci, fs)) (K : C Θ d 0 0 y' cc' nL' ret' (.ref (tb Θ + kb) :: [v0, v1, v2, v3]) n G (Qi (fun r G' => E Θ (d + 1) mc ms y cc nL ret cl sl n G' pc' ls (.int r :: st) Q))) : E Θ (d + 1) mc ms y cc nL ret cl sl n G pc ls (v3 :: v2 :: v1 :: v0 :: .ref (tb Θ + kb) :: st) Q := fun a b => E_V (As := [v0, v1, v2, v3]) hk hd rfl hst hkb hGb K a b (fun v G' hq => by
    cases v with
    | none => exact hq.elim
    | some r => exact hq) a b
theorem E_S4v {v0 v1 v2 v3 : Value} (hk : SOk y.cls i y' cc' nL' ret' 4) (hd : Dc cc pc (.invokestatic i) 3 pc') (hst : (st.map fun v => v.category).sum ≤ 8) (K : C Θ d 0 0 y' cc' nL' ret' [v0, v1, v2, v3] n G (Qv (fun G' => E Θ (d + 1) mc ms y cc nL ret cl sl n G' pc' ls st Q))) : E Θ (d + 1) mc ms y cc nL ret cl sl n G pc ls (v3 :: v2 :: v1 :: v0 :: st) Q := fun a b => E_S (As := [v0, v1, v2, v3]) hk hd rfl hst K a b (fun v G' hq => by
    cases v with
    | none => exact hq
    | some r => exact hq.elim) a b
theorem E_V4v {kb : Nat} {fs : List Value} {v0 v1 v2 v3 : Value} (hk : VOk y.cls i ci y' cc' nL' ret' 4) (hd : Dc cc pc (.invokevirtual i) 3 pc') (hst : (st.map fun v => v.category).sum ≤ 8) (hkb : kb < n) (hGb : G kb = .inr (ci, fs)) (K : C Θ d 0 0 y' cc' nL' ret' (.ref (tb Θ + kb) :: [v0, v1, v2, v3]) n G (Qv (fun G' => E Θ (d + 1) mc ms y cc nL ret cl sl n G' pc' ls st Q))) : E Θ (d + 1) mc ms y cc nL ret cl sl n G pc ls (v3 :: v2 :: v1 :: v0 :: .ref (tb Θ + kb) :: st) Q := fun a b => E_V (As := [v0, v1, v2, v3]) hk hd rfl hst hkb hGb K a b (fun v G' hq => by
    cases v with
    | none => exact hq
    | some r => exact hq.elim) a b
theorem E_S5i {v0 v1 v2 v3 v4 : Value} (hk : SOk y.cls i y' cc' nL' ret' 5) (hd : Dc cc pc (.invokestatic i) 3 pc') (hst : (st.map fun v => v.category).sum ≤ 8) (K : C Θ d 0 0 y' cc' nL' ret' [v0, v1, v2, v3, v4] n G (Qi (fun r G' => E Θ (d + 1) mc ms y cc nL ret cl sl n G' pc' ls (.int r :: st) Q))) : E Θ (d + 1) mc ms y cc nL ret cl sl n G pc ls (v4 :: v3 :: v2 :: v1 :: v0 :: st) Q := fun a b => E_S (As := [v0, v1, v2, v3, v4]) hk hd rfl hst K a b (fun v G' hq => by
    cases v with
    | none => exact hq.elim
    | some r => exact hq) a b
theorem E_V5i {kb : Nat} {fs : List Value} {v0 v1 v2 v3 v4 : Value} (hk : VOk y.cls i ci y' cc' nL' ret' 5) (hd : Dc cc pc (.invokevirtual i) 3 pc') (hst : (st.map fun v => v.category).sum ≤ 8) (hkb : kb < n) (hGb : G kb = .inr (ci, fs)) (K : C Θ d 0 0 y' cc' nL' ret' (.ref (tb Θ + kb) :: [v0, v1, v2, v3, v4]) n G (Qi (fun r G' => E Θ (d + 1) mc ms y cc nL ret cl sl n G' pc' ls (.int r :: st) Q))) : E Θ (d + 1) mc ms y cc nL ret cl sl n G pc ls (v4 :: v3 :: v2 :: v1 :: v0 :: .ref (tb Θ + kb) :: st) Q := fun a b => E_V (As := [v0, v1, v2, v3, v4]) hk hd rfl hst hkb hGb K a b (fun v G' hq => by
    cases v with
    | none => exact hq.elim
    | some r => exact hq) a b
theorem E_S5v {v0 v1 v2 v3 v4 : Value} (hk : SOk y.cls i y' cc' nL' ret' 5) (hd : Dc cc pc (.invokestatic i) 3 pc') (hst : (st.map fun v => v.category).sum ≤ 8) (K : C Θ d 0 0 y' cc' nL' ret' [v0, v1, v2, v3, v4] n G (Qv (fun G' => E Θ (d + 1) mc ms y cc nL ret cl sl n G' pc' ls st Q))) : E Θ (d + 1) mc ms y cc nL ret cl sl n G pc ls (v4 :: v3 :: v2 :: v1 :: v0 :: st) Q := fun a b => E_S (As := [v0, v1, v2, v3, v4]) hk hd rfl hst K a b (fun v G' hq => by
    cases v with
    | none => exact hq
    | some r => exact hq.elim) a b
theorem E_V5v {kb : Nat} {fs : List Value} {v0 v1 v2 v3 v4 : Value} (hk : VOk y.cls i ci y' cc' nL' ret' 5) (hd : Dc cc pc (.invokevirtual i) 3 pc') (hst : (st.map fun v => v.category).sum ≤ 8) (hkb : kb < n) (hGb : G kb = .inr (ci, fs)) (K : C Θ d 0 0 y' cc' nL' ret' (.ref (tb Θ + kb) :: [v0, v1, v2, v3, v4]) n G (Qv (fun G' => E Θ (d + 1) mc ms y cc nL ret cl sl n G' pc' ls st Q))) : E Θ (d + 1) mc ms y cc nL ret cl sl n G pc ls (v4 :: v3 :: v2 :: v1 :: v0 :: .ref (tb Θ + kb) :: st) Q := fun a b => E_V (As := [v0, v1, v2, v3, v4]) hk hd rfl hst hkb hGb K a b (fun v G' hq => by
    cases v with
    | none => exact hq
    | some r => exact hq.elim) a b
end Calls
end
