/-! the words that are used, each by its place -/
theorem tw_0 : Cond.selects RX11 yX11_isOne yX11_isOne ∈ TG := TG_in (seg_sel (List.mem_of_getElem? (i := 0) (by decide +kernel))) rfl
theorem tw_1 : Cond.selects RX11 yX11_areTwo yX11_areTwo ∈ TG := TG_in (seg_sel (List.mem_of_getElem? (i := 1) (by decide +kernel))) rfl
theorem tw_2 : Cond.selects RX10 yX10_argueOn yX10_argueOn ∈ TG := TG_in (seg_sel (List.mem_of_getElem? (i := 2) (by decide +kernel))) rfl
theorem tw_3 : Cond.selects RX10 yX10_goAshore yX10_goAshore ∈ TG := TG_in (seg_sel (List.mem_of_getElem? (i := 3) (by decide +kernel))) rfl
theorem tw_4 : Cond.selects RX10 yX10_shiftViews yX10_shiftViews ∈ TG := TG_in (seg_sel (List.mem_of_getElem? (i := 4) (by decide +kernel))) rfl
theorem tw_5 : Cond.selects RX10 yX10_setOff yX10_setOff ∈ TG := TG_in (seg_sel (List.mem_of_getElem? (i := 5) (by decide +kernel))) rfl
theorem tw_6 : Cond.selects RX10 yX10_nextAshore yX10_nextAshore ∈ TG := TG_in (seg_sel (List.mem_of_getElem? (i := 6) (by decide +kernel))) rfl
theorem tw_7 : Cond.selects RX10 yX10_thoseOver yX10_thoseOver ∈ TG := TG_in (seg_sel (List.mem_of_getElem? (i := 7) (by decide +kernel))) rfl
theorem tw_8 : Cond.selects RX11 yX11_minutesOver yX11_minutesOver ∈ TG := TG_in (seg_sel (List.mem_of_getElem? (i := 8) (by decide +kernel))) rfl
theorem tw_9 : Cond.selects RX11 yX11_findPartners yX11_findPartners ∈ TG := TG_in (seg_sel (List.mem_of_getElem? (i := 9) (by decide +kernel))) rfl
theorem tw_10 : Cond.selects RX11 yX11_pairsOf yX11_pairsOf ∈ TG := TG_in (seg_sel (List.mem_of_getElem? (i := 10) (by decide +kernel))) rfl
theorem tw_11 : Cond.selects RX11 yX11_sumDifferences yX11_sumDifferences ∈ TG := TG_in (seg_sel (List.mem_of_getElem? (i := 11) (by decide +kernel))) rfl
theorem tw_12 : Cond.selects RX7 yX7_goOn yX7_goOn ∈ TG := TG_in (seg_sel (List.mem_of_getElem? (i := 12) (by decide +kernel))) rfl
theorem tw_13 : Cond.selects RX7 yX7_keyHere yX7_keyHere ∈ TG := TG_in (seg_sel (List.mem_of_getElem? (i := 13) (by decide +kernel))) rfl
theorem tw_14 : Cond.selects RX7 yX7_isWordHere yX7_isWordHere ∈ TG := TG_in (seg_sel (List.mem_of_getElem? (i := 14) (by decide +kernel))) rfl
theorem tw_15 : Cond.selects RX7 yX7_takeOr yX7_takeOr ∈ TG := TG_in (seg_sel (List.mem_of_getElem? (i := 15) (by decide +kernel))) rfl
theorem tw_16 : Cond.selects RX7 yX7_takeAnd yX7_takeAnd ∈ TG := TG_in (seg_sel (List.mem_of_getElem? (i := 16) (by decide +kernel))) rfl
theorem tw_17 : Cond.selects RX7 yX7_takeTest yX7_takeTest ∈ TG := TG_in (seg_sel (List.mem_of_getElem? (i := 17) (by decide +kernel))) rfl
theorem tw_18 : Cond.selects RX7 yX7_takeSum yX7_takeSum ∈ TG := TG_in (seg_sel (List.mem_of_getElem? (i := 18) (by decide +kernel))) rfl
theorem tw_19 : Cond.selects RX7 yX7_takeTerm yX7_takeTerm ∈ TG := TG_in (seg_sel (List.mem_of_getElem? (i := 19) (by decide +kernel))) rfl
theorem tw_20 : Cond.selects RX7 yX7_takePiece yX7_takePiece ∈ TG := TG_in (seg_sel (List.mem_of_getElem? (i := 20) (by decide +kernel))) rfl
theorem tw_21 : Cond.selects RX7 yX7_takeNumber yX7_takeNumber ∈ TG := TG_in (seg_sel (List.mem_of_getElem? (i := 21) (by decide +kernel))) rfl
theorem tw_22 : Cond.selects RX8 yX8_addCode yX8_addCode ∈ TG := TG_in (seg_sel (List.mem_of_getElem? (i := 22) (by decide +kernel))) rfl
theorem tw_23 : Cond.selects RX7 yX7_takeName yX7_takeName ∈ TG := TG_in (seg_sel (List.mem_of_getElem? (i := 23) (by decide +kernel))) rfl
theorem tw_24 : Cond.selects RX7 yX7_takeNot yX7_takeNot ∈ TG := TG_in (seg_sel (List.mem_of_getElem? (i := 24) (by decide +kernel))) rfl
theorem tw_25 : Cond.selects RX7 yX7_takeBracket yX7_takeBracket ∈ TG := TG_in (seg_sel (List.mem_of_getElem? (i := 25) (by decide +kernel))) rfl
theorem tw_26 : Cond.selects RX11 yX11_waitsAt yX11_waitsAt ∈ TG := TG_in (seg_sel (List.mem_of_getElem? (i := 26) (by decide +kernel))) rfl
theorem tw_27 : Cond.selects RX12 yX12_comes yX12_comes ∈ TG := TG_in (seg_sel (List.mem_of_getElem? (i := 27) (by decide +kernel))) rfl
theorem tw_28 : Cond.selects RX12 yX12_put yX12_put ∈ TG := TG_in (seg_sel (List.mem_of_getElem? (i := 28) (by decide +kernel))) rfl
theorem tw_29 : Cond.selects RX12 yX12_isOne yX12_isOne ∈ TG := TG_in (seg_sel (List.mem_of_getElem? (i := 29) (by decide +kernel))) rfl
theorem tw_30 : Cond.selects RX12 yX12_of yX12_of ∈ TG := TG_in (seg_sel (List.mem_of_getElem? (i := 30) (by decide +kernel))) rfl
theorem tw_31 : Cond.selects RX12 yX12_worthOf yX12_worthOf ∈ TG := TG_in (seg_sel (List.mem_of_getElem? (i := 31) (by decide +kernel))) rfl
theorem tw_32 : Cond.selects RX12 yX12_swaps yX12_swaps ∈ TG := TG_in (seg_sel (List.mem_of_getElem? (i := 32) (by decide +kernel))) rfl
theorem tw_33 : Cond.selects RX12 yX12_draw yX12_draw ∈ TG := TG_in (seg_sel (List.mem_of_getElem? (i := 33) (by decide +kernel))) rfl
theorem tw_34 : Cond.selects RX12 yX12_areTwo yX12_areTwo ∈ TG := TG_in (seg_sel (List.mem_of_getElem? (i := 34) (by decide +kernel))) rfl
theorem tw_35 : Cond.selects RX12 yX12_apart yX12_apart ∈ TG := TG_in (seg_sel (List.mem_of_getElem? (i := 35) (by decide +kernel))) rfl
theorem tw_36 : Cond.selects RX12 yX12_speaks yX12_speaks ∈ TG := TG_in (seg_sel (List.mem_of_getElem? (i := 36) (by decide +kernel))) rfl
theorem tw_37 : Cond.selects RX12 yX12_counts yX12_counts ∈ TG := TG_in (seg_sel (List.mem_of_getElem? (i := 37) (by decide +kernel))) rfl
theorem tw_38 : Cond.selects RX12 yX12_worksOut yX12_worksOut ∈ TG := TG_in (seg_sel (List.mem_of_getElem? (i := 38) (by decide +kernel))) rfl
theorem tw_39 : Cond.selects RX12 yX12_heats yX12_heats ∈ TG := TG_in (seg_sel (List.mem_of_getElem? (i := 39) (by decide +kernel))) rfl
theorem tw_40 : Cond.selects RX12 yX12_shifts yX12_shifts ∈ TG := TG_in (seg_sel (List.mem_of_getElem? (i := 40) (by decide +kernel))) rfl
theorem tw_41 : Cond.selects RX12 yX12_goesOn yX12_goesOn ∈ TG := TG_in (seg_sel (List.mem_of_getElem? (i := 41) (by decide +kernel))) rfl
theorem tw_42 : Cond.selects RX12 yX12_minute yX12_minute ∈ TG := TG_in (seg_sel (List.mem_of_getElem? (i := 42) (by decide +kernel))) rfl
theorem tw_43 : Cond.selects RX12 yX12_waits yX12_waits ∈ TG := TG_in (seg_sel (List.mem_of_getElem? (i := 43) (by decide +kernel))) rfl
theorem tw_44 : Cond.selects RX12 yX12_nextAt yX12_nextAt ∈ TG := TG_in (seg_sel (List.mem_of_getElem? (i := 44) (by decide +kernel))) rfl
theorem tw_45 : Cond.selects RX12 yX12_goAboard yX12_goAboard ∈ TG := TG_in (seg_sel (List.mem_of_getElem? (i := 45) (by decide +kernel))) rfl
theorem tw_46 : Cond.selects RX12 yX12_quarrel yX12_quarrel ∈ TG := TG_in (seg_sel (List.mem_of_getElem? (i := 46) (by decide +kernel))) rfl
theorem tw_47 : Cond.selects RX12 yX12_comesTo yX12_comesTo ∈ TG := TG_in (seg_sel (List.mem_of_getElem? (i := 47) (by decide +kernel))) rfl
theorem tw_48 : Cond.selects RX12 yX12_across yX12_across ∈ TG := TG_in (seg_sel (List.mem_of_getElem? (i := 48) (by decide +kernel))) rfl
theorem tw_49 : Cond.selects RX12 yX12_tempers yX12_tempers ∈ TG := TG_in (seg_sel (List.mem_of_getElem? (i := 49) (by decide +kernel))) rfl
theorem tw_50 : Cond.selects RX12 yX12_overIn yX12_overIn ∈ TG := TG_in (seg_sel (List.mem_of_getElem? (i := 50) (by decide +kernel))) rfl
theorem tw_51 : Cond.selects RX12 yX12_thinks yX12_thinks ∈ TG := TG_in (seg_sel (List.mem_of_getElem? (i := 51) (by decide +kernel))) rfl
theorem tw_52 : Cond.selects RX12 yX12_putsBack yX12_putsBack ∈ TG := TG_in (seg_sel (List.mem_of_getElem? (i := 52) (by decide +kernel))) rfl
theorem tw_53 : Cond.selects RX12 yX12_soonest yX12_soonest ∈ TG := TG_in (seg_sel (List.mem_of_getElem? (i := 53) (by decide +kernel))) rfl
theorem tw_54 : Cond.selects RX12 yX12_pairsOf yX12_pairsOf ∈ TG := TG_in (seg_sel (List.mem_of_getElem? (i := 54) (by decide +kernel))) rfl
theorem tw_55 : Cond.selects RX12 yX12_crossedBy yX12_crossedBy ∈ TG := TG_in (seg_sel (List.mem_of_getElem? (i := 55) (by decide +kernel))) rfl
theorem tw_56 : Cond.selects RX12 yX12_go yX12_go ∈ TG := TG_in (seg_sel (List.mem_of_getElem? (i := 56) (by decide +kernel))) rfl
theorem tw_57 : Cond.selects RX12 yX12_isLetter yX12_isLetter ∈ TG := TG_in (seg_sel (List.mem_of_getElem? (i := 57) (by decide +kernel))) rfl
theorem tw_58 : Cond.selects RX12 yX12_isFigure yX12_isFigure ∈ TG := TG_in (seg_sel (List.mem_of_getElem? (i := 58) (by decide +kernel))) rfl
theorem tw_59 : Cond.selects RX12 yX12_takesKey yX12_takesKey ∈ TG := TG_in (seg_sel (List.mem_of_getElem? (i := 59) (by decide +kernel))) rfl
theorem tw_60 : Cond.selects RX12 yX12_takesE yX12_takesE ∈ TG := TG_in (seg_sel (List.mem_of_getElem? (i := 60) (by decide +kernel))) rfl
theorem tw_61 : Cond.selects RX12 yX12_takesPart yX12_takesPart ∈ TG := TG_in (seg_sel (List.mem_of_getElem? (i := 61) (by decide +kernel))) rfl
theorem tw_62 : Cond.selects RX12 yX12_nameOf yX12_nameOf ∈ TG := TG_in (seg_sel (List.mem_of_getElem? (i := 62) (by decide +kernel))) rfl
theorem tw_63 : Cond.selects RX12 yX12_settle yX12_settle ∈ TG := TG_in (seg_sel (List.mem_of_getElem? (i := 63) (by decide +kernel))) rfl
theorem tw_64 : Cond.selects RX12 yX12_notsOpen yX12_notsOpen ∈ TG := TG_in (seg_sel (List.mem_of_getElem? (i := 64) (by decide +kernel))) rfl
theorem tw_65 : Cond.selects RX12 yX12_signHere yX12_signHere ∈ TG := TG_in (seg_sel (List.mem_of_getElem? (i := 65) (by decide +kernel))) rfl
theorem tw_67 : Cond.initialized RX11 ∈ TG := TG_in (seg_1 (List.mem_of_getElem? (i := 1) (by decide +kernel))) rfl
theorem tw_68 : Cond.initialized RX7 ∈ TG := TG_in (seg_1 (List.mem_of_getElem? (i := 2) (by decide +kernel))) rfl
theorem tw_69 : Cond.initialized RX3 ∈ TG := TG_in (seg_1 (List.mem_of_getElem? (i := 3) (by decide +kernel))) rfl
theorem tw_70 : Cond.initialized RX2 ∈ TG := TG_in (seg_1 (List.mem_of_getElem? (i := 4) (by decide +kernel))) rfl
theorem tw_71 : Cond.initialized RX1 ∈ TG := TG_in (seg_1 (List.mem_of_getElem? (i := 5) (by decide +kernel))) rfl
theorem tw_72 : Cond.initialized RX9 ∈ TG := TG_in (seg_1 (List.mem_of_getElem? (i := 6) (by decide +kernel))) rfl
theorem tw_73 : Cond.initialized RX6 ∈ TG := TG_in (seg_1 (List.mem_of_getElem? (i := 7) (by decide +kernel))) rfl
theorem tw_74 : Cond.initialized RX0 ∈ TG := TG_in (seg_1 (List.mem_of_getElem? (i := 8) (by decide +kernel))) rfl
theorem tw_75 : Cond.initialized RX10 ∈ TG := TG_in (seg_1 (List.mem_of_getElem? (i := 9) (by decide +kernel))) rfl
theorem tw_76 : Cond.initialized RX4 ∈ TG := TG_in (seg_1 (List.mem_of_getElem? (i := 10) (by decide +kernel))) rfl
theorem tw_77 : Cond.initialized RX8 ∈ TG := TG_in (seg_1 (List.mem_of_getElem? (i := 11) (by decide +kernel))) rfl
theorem tw_78 : Cond.initialized RX5 ∈ TG := TG_in (seg_1 (List.mem_of_getElem? (i := 12) (by decide +kernel))) rfl
theorem tw_79 : Cond.initialized RX12 ∈ TG := TG_in (seg_1 (List.mem_of_getElem? (i := 13) (by decide +kernel))) rfl
theorem tw_80 : Cond.initialized RJ7 ∈ TG := TG_in (seg_1 (List.mem_of_getElem? (i := 14) (by decide +kernel))) rfl
theorem tw_81 : Cond.initialized RJ9 ∈ TG := TG_in (seg_1 (List.mem_of_getElem? (i := 15) (by decide +kernel))) rfl
theorem tw_82 : Cond.initialized RJ10 ∈ TG := TG_in (seg_1 (List.mem_of_getElem? (i := 16) (by decide +kernel))) rfl
theorem tw_83 : Cond.initialized RJ6 ∈ TG := TG_in (seg_1 (List.mem_of_getElem? (i := 17) (by decide +kernel))) rfl
theorem tw_84 : Cond.initialized RJ0 ∈ TG := TG_in (seg_1 (List.mem_of_getElem? (i := 18) (by decide +kernel))) rfl
theorem tw_85 : Cond.initialized RJ1 ∈ TG := TG_in (seg_1 (List.mem_of_getElem? (i := 19) (by decide +kernel))) rfl
theorem tw_86 : Cond.initialized RJ3 ∈ TG := TG_in (seg_1 (List.mem_of_getElem? (i := 20) (by decide +kernel))) rfl
theorem tw_87 : Cond.initialized RJ2 ∈ TG := TG_in (seg_1 (List.mem_of_getElem? (i := 21) (by decide +kernel))) rfl
theorem tw_88 : Cond.initialized RJ11 ∈ TG := TG_in (seg_1 (List.mem_of_getElem? (i := 22) (by decide +kernel))) rfl
theorem tw_89 : Cond.classLink RL 7 RX11 ∈ TG := TG_in (seg_1 (List.mem_of_getElem? (i := 23) (by decide +kernel))) rfl
theorem tw_90 : Cond.instantiable RX11 17 ∈ TG := TG_in (seg_1 (List.mem_of_getElem? (i := 24) (by decide +kernel))) rfl
theorem tw_91 : Cond.methodLink RL 9 yX11_init ∈ TG := TG_in (seg_1 (List.mem_of_getElem? (i := 25) (by decide +kernel))) rfl
theorem tw_92 : Cond.instanceMethod yX11_init ∈ TG := TG_in (seg_1 (List.mem_of_getElem? (i := 26) (by decide +kernel))) rfl
theorem tw_93 : Cond.code yX11_init cX11_init 2 none ∈ TG := TG_in (seg_1 (List.mem_of_getElem? (i := 27) (by decide +kernel))) rfl
theorem tw_94 : Cond.methodLink RX11 1 ⟨"java/lang/Object", "<init>", "()V"⟩ ∈ TG := TG_in (seg_1 (List.mem_of_getElem? (i := 28) (by decide +kernel))) rfl
theorem tw_95 : Cond.instanceMethod ⟨"java/lang/Object", "<init>", "()V"⟩ ∈ TG := TG_in (seg_1 (List.mem_of_getElem? (i := 29) (by decide +kernel))) rfl
theorem tw_96 : Cond.code ⟨"java/lang/Object", "<init>", "()V"⟩ object_method_1_code 1 none ∈ TG := TG_in (seg_1 (List.mem_of_getElem? (i := 30) (by decide +kernel))) rfl
theorem tw_97 : Cond.classLink RX11 9 RX3 ∈ TG := TG_in (seg_1 (List.mem_of_getElem? (i := 31) (by decide +kernel))) rfl
theorem tw_99 : Cond.classLink RX11 15 RX8 ∈ TG := TG_in (seg_1 (List.mem_of_getElem? (i := 33) (by decide +kernel))) rfl
theorem tw_101 : Cond.classLink RX11 21 RX7 ∈ TG := TG_in (seg_1 (List.mem_of_getElem? (i := 35) (by decide +kernel))) rfl
theorem tw_102 : Cond.instantiable RX7 6 ∈ TG := TG_in (seg_1 (List.mem_of_getElem? (i := 36) (by decide +kernel))) rfl
theorem tn_103 : Cond.methodLinkNest RX11 23 yX7_init "ArguedFerry" ∈ lw_tbl := seg_1 (List.mem_of_getElem? (i := 37) (by decide +kernel))
theorem tw_104 : Cond.instanceMethod yX7_init ∈ TG := TG_in (seg_1 (List.mem_of_getElem? (i := 38) (by decide +kernel))) rfl
theorem tw_105 : Cond.code yX7_init cX7_init 1 none ∈ TG := TG_in (seg_1 (List.mem_of_getElem? (i := 39) (by decide +kernel))) rfl
theorem tw_106 : Cond.methodLink RX7 3 ⟨"java/lang/Object", "<init>", "()V"⟩ ∈ TG := TG_in (seg_1 (List.mem_of_getElem? (i := 40) (by decide +kernel))) rfl
theorem tw_107 : Cond.fieldLink RX7 9 "ArguedFerry$Tape" "bytes" "[I" ∈ TG := TG_in (seg_1 (List.mem_of_getElem? (i := 41) (by decide +kernel))) rfl
theorem tw_108 : Cond.fieldLink RX7 15 "ArguedFerry$Tape" "length" "I" ∈ TG := TG_in (seg_1 (List.mem_of_getElem? (i := 42) (by decide +kernel))) rfl
theorem tn_109 : Cond.fieldLinkNest RX11 255 "ArguedFerry$Tape" "length" "I" "ArguedFerry" ∈ lw_tbl := seg_1 (List.mem_of_getElem? (i := 43) (by decide +kernel))
theorem tw_110 : Cond.fieldLink RX7 50 "ArguedFerry$Tape" "start" "I" ∈ TG := TG_in (seg_1 (List.mem_of_getElem? (i := 44) (by decide +kernel))) rfl
theorem tn_111 : Cond.fieldLinkNest RX11 268 "ArguedFerry$Tape" "start" "I" "ArguedFerry" ∈ lw_tbl := seg_1 (List.mem_of_getElem? (i := 45) (by decide +kernel))
theorem tw_112 : Cond.fieldLink RX7 26 "ArguedFerry$Tape" "end" "I" ∈ TG := TG_in (seg_1 (List.mem_of_getElem? (i := 46) (by decide +kernel))) rfl
theorem tw_113 : Cond.fieldLink RX7 23 "ArguedFerry$Tape" "token" "I" ∈ TG := TG_in (seg_1 (List.mem_of_getElem? (i := 47) (by decide +kernel))) rfl
theorem tw_114 : Cond.fieldLink RX7 19 "ArguedFerry$Tape" "taken" "LArguedFerry$Text;" ∈ TG := TG_in (seg_1 (List.mem_of_getElem? (i := 48) (by decide +kernel))) rfl
theorem tw_128 : Cond.arrayClass .int ∈ TG := TG_in (seg_1 (List.mem_of_getElem? (i := 62) (by decide +kernel))) rfl
theorem tw_129 : Cond.classLink RX11 28 RX5 ∈ TG := TG_in (seg_1 (List.mem_of_getElem? (i := 63) (by decide +kernel))) rfl
theorem tw_131 : Cond.classLink RX11 38 RX4 ∈ TG := TG_in (seg_1 (List.mem_of_getElem? (i := 65) (by decide +kernel))) rfl
theorem tw_133 : Cond.instantiable RX3 0 ∈ TG := TG_in (seg_1 (List.mem_of_getElem? (i := 67) (by decide +kernel))) rfl
theorem tn_134 : Cond.methodLinkNest RX11 62 yX3_init "ArguedFerry" ∈ lw_tbl := seg_1 (List.mem_of_getElem? (i := 68) (by decide +kernel))
theorem tw_135 : Cond.instanceMethod yX3_init ∈ TG := TG_in (seg_1 (List.mem_of_getElem? (i := 69) (by decide +kernel))) rfl
theorem tw_136 : Cond.code yX3_init cX3_init 1 none ∈ TG := TG_in (seg_1 (List.mem_of_getElem? (i := 70) (by decide +kernel))) rfl
theorem tw_137 : Cond.methodLink RX3 1 ⟨"java/lang/Object", "<init>", "()V"⟩ ∈ TG := TG_in (seg_1 (List.mem_of_getElem? (i := 71) (by decide +kernel))) rfl
theorem tw_139 : Cond.classLink RX11 63 RX2 ∈ TG := TG_in (seg_1 (List.mem_of_getElem? (i := 73) (by decide +kernel))) rfl
theorem tw_140 : Cond.instantiable RX2 0 ∈ TG := TG_in (seg_1 (List.mem_of_getElem? (i := 74) (by decide +kernel))) rfl
theorem tn_141 : Cond.methodLinkNest RX11 65 yX2_init "ArguedFerry" ∈ lw_tbl := seg_1 (List.mem_of_getElem? (i := 75) (by decide +kernel))
theorem tw_142 : Cond.instanceMethod yX2_init ∈ TG := TG_in (seg_1 (List.mem_of_getElem? (i := 76) (by decide +kernel))) rfl
theorem tw_143 : Cond.code yX2_init cX2_init 1 none ∈ TG := TG_in (seg_1 (List.mem_of_getElem? (i := 77) (by decide +kernel))) rfl
theorem tn_144 : Cond.methodLinkNest RX2 1 yX3_init "ArguedFerry" ∈ lw_tbl := seg_1 (List.mem_of_getElem? (i := 78) (by decide +kernel))
theorem tw_145 : Cond.superclass RX2 RX3 ∈ TG := TG_in (seg_1 (List.mem_of_getElem? (i := 79) (by decide +kernel))) rfl
theorem tw_146 : Cond.classLink RX11 66 RX1 ∈ TG := TG_in (seg_1 (List.mem_of_getElem? (i := 80) (by decide +kernel))) rfl
theorem tw_147 : Cond.instantiable RX1 0 ∈ TG := TG_in (seg_1 (List.mem_of_getElem? (i := 81) (by decide +kernel))) rfl
theorem tn_148 : Cond.methodLinkNest RX11 68 yX1_init "ArguedFerry" ∈ lw_tbl := seg_1 (List.mem_of_getElem? (i := 82) (by decide +kernel))
theorem tw_149 : Cond.instanceMethod yX1_init ∈ TG := TG_in (seg_1 (List.mem_of_getElem? (i := 83) (by decide +kernel))) rfl
theorem tw_150 : Cond.code yX1_init cX1_init 1 none ∈ TG := TG_in (seg_1 (List.mem_of_getElem? (i := 84) (by decide +kernel))) rfl
theorem tn_151 : Cond.methodLinkNest RX1 3 yX3_init "ArguedFerry" ∈ lw_tbl := seg_1 (List.mem_of_getElem? (i := 85) (by decide +kernel))
theorem tw_152 : Cond.superclass RX1 RX3 ∈ TG := TG_in (seg_1 (List.mem_of_getElem? (i := 86) (by decide +kernel))) rfl
theorem tw_153 : Cond.classLink RX11 69 RX9 ∈ TG := TG_in (seg_1 (List.mem_of_getElem? (i := 87) (by decide +kernel))) rfl
theorem tw_154 : Cond.instantiable RX9 0 ∈ TG := TG_in (seg_1 (List.mem_of_getElem? (i := 88) (by decide +kernel))) rfl
theorem tn_155 : Cond.methodLinkNest RX11 71 yX9_init "ArguedFerry" ∈ lw_tbl := seg_1 (List.mem_of_getElem? (i := 89) (by decide +kernel))
theorem tw_156 : Cond.instanceMethod yX9_init ∈ TG := TG_in (seg_1 (List.mem_of_getElem? (i := 90) (by decide +kernel))) rfl
theorem tw_157 : Cond.code yX9_init cX9_init 1 none ∈ TG := TG_in (seg_1 (List.mem_of_getElem? (i := 91) (by decide +kernel))) rfl
theorem tn_158 : Cond.methodLinkNest RX9 1 yX2_init "ArguedFerry" ∈ lw_tbl := seg_1 (List.mem_of_getElem? (i := 92) (by decide +kernel))
theorem tw_159 : Cond.superclass RX9 RX2 ∈ TG := TG_in (seg_1 (List.mem_of_getElem? (i := 93) (by decide +kernel))) rfl
theorem tw_160 : Cond.classLink RX11 72 RX6 ∈ TG := TG_in (seg_1 (List.mem_of_getElem? (i := 94) (by decide +kernel))) rfl
theorem tw_161 : Cond.instantiable RX6 0 ∈ TG := TG_in (seg_1 (List.mem_of_getElem? (i := 95) (by decide +kernel))) rfl
theorem tn_162 : Cond.methodLinkNest RX11 74 yX6_init "ArguedFerry" ∈ lw_tbl := seg_1 (List.mem_of_getElem? (i := 96) (by decide +kernel))
theorem tw_163 : Cond.instanceMethod yX6_init ∈ TG := TG_in (seg_1 (List.mem_of_getElem? (i := 97) (by decide +kernel))) rfl
theorem tw_164 : Cond.code yX6_init cX6_init 1 none ∈ TG := TG_in (seg_1 (List.mem_of_getElem? (i := 98) (by decide +kernel))) rfl
theorem tn_165 : Cond.methodLinkNest RX6 1 yX1_init "ArguedFerry" ∈ lw_tbl := seg_1 (List.mem_of_getElem? (i := 99) (by decide +kernel))
theorem tw_166 : Cond.superclass RX6 RX1 ∈ TG := TG_in (seg_1 (List.mem_of_getElem? (i := 100) (by decide +kernel))) rfl
theorem tw_167 : Cond.classLink RX11 75 RX0 ∈ TG := TG_in (seg_1 (List.mem_of_getElem? (i := 101) (by decide +kernel))) rfl
theorem tw_168 : Cond.instantiable RX0 0 ∈ TG := TG_in (seg_1 (List.mem_of_getElem? (i := 102) (by decide +kernel))) rfl
theorem tn_169 : Cond.methodLinkNest RX11 77 yX0_init "ArguedFerry" ∈ lw_tbl := seg_1 (List.mem_of_getElem? (i := 103) (by decide +kernel))
theorem tw_170 : Cond.instanceMethod yX0_init ∈ TG := TG_in (seg_1 (List.mem_of_getElem? (i := 104) (by decide +kernel))) rfl
theorem tw_171 : Cond.code yX0_init cX0_init 1 none ∈ TG := TG_in (seg_1 (List.mem_of_getElem? (i := 105) (by decide +kernel))) rfl
theorem tn_172 : Cond.methodLinkNest RX0 1 yX3_init "ArguedFerry" ∈ lw_tbl := seg_1 (List.mem_of_getElem? (i := 106) (by decide +kernel))
theorem tw_173 : Cond.superclass RX0 RX3 ∈ TG := TG_in (seg_1 (List.mem_of_getElem? (i := 107) (by decide +kernel))) rfl
theorem tw_174 : Cond.classLink RX11 78 RX10 ∈ TG := TG_in (seg_1 (List.mem_of_getElem? (i := 108) (by decide +kernel))) rfl
theorem tw_175 : Cond.instantiable RX10 14 ∈ TG := TG_in (seg_1 (List.mem_of_getElem? (i := 109) (by decide +kernel))) rfl
theorem tw_176 : Cond.methodLink RX11 80 yX10_init ∈ TG := TG_in (seg_1 (List.mem_of_getElem? (i := 110) (by decide +kernel))) rfl
theorem tw_177 : Cond.instanceMethod yX10_init ∈ TG := TG_in (seg_1 (List.mem_of_getElem? (i := 111) (by decide +kernel))) rfl
theorem tw_178 : Cond.code yX10_init cX10_init 3 none ∈ TG := TG_in (seg_1 (List.mem_of_getElem? (i := 112) (by decide +kernel))) rfl
theorem tw_179 : Cond.methodLink RX10 3 ⟨"java/lang/Object", "<init>", "()V"⟩ ∈ TG := TG_in (seg_1 (List.mem_of_getElem? (i := 113) (by decide +kernel))) rfl
theorem tw_180 : Cond.classLink RX10 9 RX4 ∈ TG := TG_in (seg_1 (List.mem_of_getElem? (i := 114) (by decide +kernel))) rfl
theorem tw_181 : Cond.classLink RX10 31 RX8 ∈ TG := TG_in (seg_1 (List.mem_of_getElem? (i := 115) (by decide +kernel))) rfl
theorem tw_182 : Cond.instantiable RX4 4 ∈ TG := TG_in (seg_1 (List.mem_of_getElem? (i := 116) (by decide +kernel))) rfl
theorem tw_183 : Cond.methodLink RX10 37 yX4_init ∈ TG := TG_in (seg_1 (List.mem_of_getElem? (i := 117) (by decide +kernel))) rfl
theorem tw_184 : Cond.instanceMethod yX4_init ∈ TG := TG_in (seg_1 (List.mem_of_getElem? (i := 118) (by decide +kernel))) rfl
theorem tw_185 : Cond.code yX4_init cX4_init 2 none ∈ TG := TG_in (seg_1 (List.mem_of_getElem? (i := 119) (by decide +kernel))) rfl
theorem tw_186 : Cond.methodLink RX4 3 ⟨"java/lang/Object", "<init>", "()V"⟩ ∈ TG := TG_in (seg_1 (List.mem_of_getElem? (i := 120) (by decide +kernel))) rfl
theorem tw_187 : Cond.fieldLink RX4 15 "ArguedFerry$Passenger" "nature" "LArguedFerry$Nature;" ∈ TG := TG_in (seg_1 (List.mem_of_getElem? (i := 121) (by decide +kernel))) rfl
theorem tn_188 : Cond.fieldLinkNest RX11 121 "ArguedFerry$Passenger" "nature" "LArguedFerry$Nature;" "ArguedFerry" ∈ lw_tbl := seg_1 (List.mem_of_getElem? (i := 122) (by decide +kernel))
theorem tn_189 : Cond.fieldLinkNest RX10 90 "ArguedFerry$Passenger" "nature" "LArguedFerry$Nature;" "ArguedFerry" ∈ lw_tbl := seg_1 (List.mem_of_getElem? (i := 123) (by decide +kernel))
theorem tw_190 : Cond.fieldLink RX4 19 "ArguedFerry$Passenger" "bank" "I" ∈ TG := TG_in (seg_1 (List.mem_of_getElem? (i := 124) (by decide +kernel))) rfl
theorem tn_191 : Cond.fieldLinkNest RX11 129 "ArguedFerry$Passenger" "bank" "I" "ArguedFerry" ∈ lw_tbl := seg_1 (List.mem_of_getElem? (i := 125) (by decide +kernel))
theorem tn_192 : Cond.fieldLinkNest RX10 113 "ArguedFerry$Passenger" "bank" "I" "ArguedFerry" ∈ lw_tbl := seg_1 (List.mem_of_getElem? (i := 126) (by decide +kernel))
theorem tw_193 : Cond.fieldLink RX4 23 "ArguedFerry$Passenger" "temper" "I" ∈ TG := TG_in (seg_1 (List.mem_of_getElem? (i := 127) (by decide +kernel))) rfl
theorem tn_194 : Cond.fieldLinkNest RX11 132 "ArguedFerry$Passenger" "temper" "I" "ArguedFerry" ∈ lw_tbl := seg_1 (List.mem_of_getElem? (i := 128) (by decide +kernel))
theorem tn_195 : Cond.fieldLinkNest RX10 83 "ArguedFerry$Passenger" "temper" "I" "ArguedFerry" ∈ lw_tbl := seg_1 (List.mem_of_getElem? (i := 129) (by decide +kernel))
theorem tw_196 : Cond.fieldLink RX4 9 "ArguedFerry$Passenger" "views" "[I" ∈ TG := TG_in (seg_1 (List.mem_of_getElem? (i := 130) (by decide +kernel))) rfl
theorem tn_197 : Cond.fieldLinkNest RX11 142 "ArguedFerry$Passenger" "views" "[I" "ArguedFerry" ∈ lw_tbl := seg_1 (List.mem_of_getElem? (i := 131) (by decide +kernel))
theorem tn_198 : Cond.fieldLinkNest RX10 144 "ArguedFerry$Passenger" "views" "[I" "ArguedFerry" ∈ lw_tbl := seg_1 (List.mem_of_getElem? (i := 132) (by decide +kernel))
theorem tw_208 : Cond.fieldLink RX10 11 "ArguedFerry$World" "crew" "[LArguedFerry$Passenger;" ∈ TG := TG_in (seg_1 (List.mem_of_getElem? (i := 142) (by decide +kernel))) rfl
theorem tn_209 : Cond.fieldLinkNest RX11 111 "ArguedFerry$World" "crew" "[LArguedFerry$Passenger;" "ArguedFerry" ∈ lw_tbl := seg_1 (List.mem_of_getElem? (i := 143) (by decide +kernel))
theorem tw_210 : Cond.fieldLink RX10 40 "ArguedFerry$World" "many" "I" ∈ TG := TG_in (seg_1 (List.mem_of_getElem? (i := 144) (by decide +kernel))) rfl
theorem tn_211 : Cond.fieldLinkNest RX11 106 "ArguedFerry$World" "many" "I" "ArguedFerry" ∈ lw_tbl := seg_1 (List.mem_of_getElem? (i := 145) (by decide +kernel))
theorem tw_212 : Cond.fieldLink RX10 47 "ArguedFerry$World" "side" "I" ∈ TG := TG_in (seg_1 (List.mem_of_getElem? (i := 146) (by decide +kernel))) rfl
theorem tn_213 : Cond.fieldLinkNest RX11 175 "ArguedFerry$World" "side" "I" "ArguedFerry" ∈ lw_tbl := seg_1 (List.mem_of_getElem? (i := 147) (by decide +kernel))
theorem tw_214 : Cond.fieldLink RX10 50 "ArguedFerry$World" "way" "I" ∈ TG := TG_in (seg_1 (List.mem_of_getElem? (i := 148) (by decide +kernel))) rfl
theorem tn_215 : Cond.fieldLinkNest RX11 172 "ArguedFerry$World" "way" "I" "ArguedFerry" ∈ lw_tbl := seg_1 (List.mem_of_getElem? (i := 149) (by decide +kernel))
theorem tw_216 : Cond.fieldLink RX10 53 "ArguedFerry$World" "first" "I" ∈ TG := TG_in (seg_1 (List.mem_of_getElem? (i := 150) (by decide +kernel))) rfl
theorem tn_217 : Cond.fieldLinkNest RX11 178 "ArguedFerry$World" "first" "I" "ArguedFerry" ∈ lw_tbl := seg_1 (List.mem_of_getElem? (i := 151) (by decide +kernel))
theorem tw_218 : Cond.fieldLink RX10 56 "ArguedFerry$World" "second" "I" ∈ TG := TG_in (seg_1 (List.mem_of_getElem? (i := 152) (by decide +kernel))) rfl
theorem tn_219 : Cond.fieldLinkNest RX11 182 "ArguedFerry$World" "second" "I" "ArguedFerry" ∈ lw_tbl := seg_1 (List.mem_of_getElem? (i := 153) (by decide +kernel))
theorem tw_220 : Cond.fieldLink RX10 59 "ArguedFerry$World" "matter" "I" ∈ TG := TG_in (seg_1 (List.mem_of_getElem? (i := 154) (by decide +kernel))) rfl
theorem tn_221 : Cond.fieldLinkNest RX11 185 "ArguedFerry$World" "matter" "I" "ArguedFerry" ∈ lw_tbl := seg_1 (List.mem_of_getElem? (i := 155) (by decide +kernel))
theorem tw_222 : Cond.fieldLink RX10 17 "ArguedFerry$World" "wind" "I" ∈ TG := TG_in (seg_1 (List.mem_of_getElem? (i := 156) (by decide +kernel))) rfl
theorem tn_223 : Cond.fieldLinkNest RX11 154 "ArguedFerry$World" "wind" "I" "ArguedFerry" ∈ lw_tbl := seg_1 (List.mem_of_getElem? (i := 157) (by decide +kernel))
theorem tw_224 : Cond.fieldLink RX10 21 "ArguedFerry$World" "limit" "I" ∈ TG := TG_in (seg_1 (List.mem_of_getElem? (i := 158) (by decide +kernel))) rfl
theorem tn_225 : Cond.fieldLinkNest RX11 157 "ArguedFerry$World" "limit" "I" "ArguedFerry" ∈ lw_tbl := seg_1 (List.mem_of_getElem? (i := 159) (by decide +kernel))
theorem tw_226 : Cond.fieldLink RX10 24 "ArguedFerry$World" "tally" "[I" ∈ TG := TG_in (seg_1 (List.mem_of_getElem? (i := 160) (by decide +kernel))) rfl
theorem tn_227 : Cond.fieldLinkNest RX11 205 "ArguedFerry$World" "tally" "[I" "ArguedFerry" ∈ lw_tbl := seg_1 (List.mem_of_getElem? (i := 161) (by decide +kernel))
theorem tw_228 : Cond.fieldLink RX10 68 "ArguedFerry$World" "minute" "I" ∈ TG := TG_in (seg_1 (List.mem_of_getElem? (i := 162) (by decide +kernel))) rfl
theorem tn_229 : Cond.fieldLinkNest RX11 208 "ArguedFerry$World" "minute" "I" "ArguedFerry" ∈ lw_tbl := seg_1 (List.mem_of_getElem? (i := 163) (by decide +kernel))
theorem tw_230 : Cond.fieldLink RX10 28 "ArguedFerry$World" "z" "I" ∈ TG := TG_in (seg_1 (List.mem_of_getElem? (i := 164) (by decide +kernel))) rfl
theorem tn_231 : Cond.fieldLinkNest RX11 169 "ArguedFerry$World" "z" "I" "ArguedFerry" ∈ lw_tbl := seg_1 (List.mem_of_getElem? (i := 165) (by decide +kernel))
theorem tw_232 : Cond.fieldLink RX10 33 "ArguedFerry$World" "laws" "[LArguedFerry$Text;" ∈ TG := TG_in (seg_1 (List.mem_of_getElem? (i := 166) (by decide +kernel))) rfl
theorem tn_233 : Cond.fieldLinkNest RX11 249 "ArguedFerry$World" "laws" "[LArguedFerry$Text;" "ArguedFerry" ∈ lw_tbl := seg_1 (List.mem_of_getElem? (i := 167) (by decide +kernel))
theorem tw_234 : Cond.fieldLink RX10 71 "ArguedFerry$World" "textsTold" "I" ∈ TG := TG_in (seg_1 (List.mem_of_getElem? (i := 168) (by decide +kernel))) rfl
theorem tn_235 : Cond.fieldLinkNest RX11 261 "ArguedFerry$World" "textsTold" "I" "ArguedFerry" ∈ lw_tbl := seg_1 (List.mem_of_getElem? (i := 169) (by decide +kernel))
theorem tw_265 : Cond.instantiable RX8 6 ∈ TG := TG_in (seg_1 (List.mem_of_getElem? (i := 199) (by decide +kernel))) rfl
theorem tw_266 : Cond.methodLink RX11 93 yX8_init ∈ TG := TG_in (seg_1 (List.mem_of_getElem? (i := 200) (by decide +kernel))) rfl
theorem tw_267 : Cond.instanceMethod yX8_init ∈ TG := TG_in (seg_1 (List.mem_of_getElem? (i := 201) (by decide +kernel))) rfl
theorem tw_268 : Cond.code yX8_init cX8_init 2 none ∈ TG := TG_in (seg_1 (List.mem_of_getElem? (i := 202) (by decide +kernel))) rfl
theorem tw_269 : Cond.methodLink RX8 3 ⟨"java/lang/Object", "<init>", "()V"⟩ ∈ TG := TG_in (seg_1 (List.mem_of_getElem? (i := 203) (by decide +kernel))) rfl
theorem tw_270 : Cond.fieldLink RX8 18 "ArguedFerry$Text" "number" "I" ∈ TG := TG_in (seg_1 (List.mem_of_getElem? (i := 204) (by decide +kernel))) rfl
theorem tn_271 : Cond.fieldLinkNest RX11 274 "ArguedFerry$Text" "number" "I" "ArguedFerry" ∈ lw_tbl := seg_1 (List.mem_of_getElem? (i := 205) (by decide +kernel))
theorem tw_272 : Cond.fieldLink RX8 22 "ArguedFerry$Text" "key" "I" ∈ TG := TG_in (seg_1 (List.mem_of_getElem? (i := 206) (by decide +kernel))) rfl
theorem tn_273 : Cond.fieldLinkNest RX7 109 "ArguedFerry$Text" "key" "I" "ArguedFerry" ∈ lw_tbl := seg_1 (List.mem_of_getElem? (i := 207) (by decide +kernel))
theorem tn_274 : Cond.fieldLinkNest RX11 271 "ArguedFerry$Text" "key" "I" "ArguedFerry" ∈ lw_tbl := seg_1 (List.mem_of_getElem? (i := 208) (by decide +kernel))
theorem tw_275 : Cond.fieldLink RX8 25 "ArguedFerry$Text" "operands" "I" ∈ TG := TG_in (seg_1 (List.mem_of_getElem? (i := 209) (by decide +kernel))) rfl
theorem tn_276 : Cond.fieldLinkNest RX11 277 "ArguedFerry$Text" "operands" "I" "ArguedFerry" ∈ lw_tbl := seg_1 (List.mem_of_getElem? (i := 210) (by decide +kernel))
theorem tw_277 : Cond.fieldLink RX8 28 "ArguedFerry$Text" "length" "I" ∈ TG := TG_in (seg_1 (List.mem_of_getElem? (i := 211) (by decide +kernel))) rfl
theorem tw_278 : Cond.fieldLink RX8 9 "ArguedFerry$Text" "codes" "[I" ∈ TG := TG_in (seg_1 (List.mem_of_getElem? (i := 212) (by decide +kernel))) rfl
theorem tw_279 : Cond.fieldLink RX8 15 "ArguedFerry$Text" "stack" "[I" ∈ TG := TG_in (seg_1 (List.mem_of_getElem? (i := 213) (by decide +kernel))) rfl
theorem tw_293 : Cond.instantiable RX5 3 ∈ TG := TG_in (seg_1 (List.mem_of_getElem? (i := 227) (by decide +kernel))) rfl
theorem tn_294 : Cond.methodLinkNest RX11 96 yX5_init "ArguedFerry" ∈ lw_tbl := seg_1 (List.mem_of_getElem? (i := 228) (by decide +kernel))
theorem tw_295 : Cond.instanceMethod yX5_init ∈ TG := TG_in (seg_1 (List.mem_of_getElem? (i := 229) (by decide +kernel))) rfl
theorem tw_296 : Cond.code yX5_init cX5_init 1 none ∈ TG := TG_in (seg_1 (List.mem_of_getElem? (i := 230) (by decide +kernel))) rfl
theorem tw_297 : Cond.methodLink RX5 3 ⟨"java/lang/Object", "<init>", "()V"⟩ ∈ TG := TG_in (seg_1 (List.mem_of_getElem? (i := 231) (by decide +kernel))) rfl
theorem tw_298 : Cond.fieldLink RX5 9 "ArguedFerry$Row" "sort" "I" ∈ TG := TG_in (seg_1 (List.mem_of_getElem? (i := 232) (by decide +kernel))) rfl
theorem tn_299 : Cond.fieldLinkNest RX11 289 "ArguedFerry$Row" "sort" "I" "ArguedFerry" ∈ lw_tbl := seg_1 (List.mem_of_getElem? (i := 233) (by decide +kernel))
theorem tw_300 : Cond.fieldLink RX5 19 "ArguedFerry$Row" "size" "I" ∈ TG := TG_in (seg_1 (List.mem_of_getElem? (i := 234) (by decide +kernel))) rfl
theorem tn_301 : Cond.fieldLinkNest RX11 297 "ArguedFerry$Row" "size" "I" "ArguedFerry" ∈ lw_tbl := seg_1 (List.mem_of_getElem? (i := 235) (by decide +kernel))
theorem tw_302 : Cond.fieldLink RX5 15 "ArguedFerry$Row" "places" "[I" ∈ TG := TG_in (seg_1 (List.mem_of_getElem? (i := 236) (by decide +kernel))) rfl
theorem tn_303 : Cond.fieldLinkNest RX11 292 "ArguedFerry$Row" "places" "[I" "ArguedFerry" ∈ lw_tbl := seg_1 (List.mem_of_getElem? (i := 237) (by decide +kernel))
theorem tw_311 : Cond.methodLink RX11 97 yX4_init ∈ TG := TG_in (seg_2 (List.mem_of_getElem? (i := 5) (by decide +kernel))) rfl
theorem tw_312 : Cond.fieldLink RX11 11 "ArguedFerry" "natures" "[LArguedFerry$Nature;" ∈ TG := TG_in (seg_2 (List.mem_of_getElem? (i := 6) (by decide +kernel))) rfl
theorem tw_313 : Cond.fieldLink RX11 83 "ArguedFerry" "now" "LArguedFerry$World;" ∈ TG := TG_in (seg_2 (List.mem_of_getElem? (i := 7) (by decide +kernel))) rfl
theorem tw_314 : Cond.fieldLink RX11 87 "ArguedFerry" "image" "LArguedFerry$World;" ∈ TG := TG_in (seg_2 (List.mem_of_getElem? (i := 8) (by decide +kernel))) rfl
theorem tw_315 : Cond.fieldLink RX11 90 "ArguedFerry" "thought" "LArguedFerry$World;" ∈ TG := TG_in (seg_2 (List.mem_of_getElem? (i := 9) (by decide +kernel))) rfl
theorem tw_316 : Cond.fieldLink RX11 326 "ArguedFerry" "hasImage" "Z" ∈ TG := TG_in (seg_2 (List.mem_of_getElem? (i := 10) (by decide +kernel))) rfl
theorem tw_317 : Cond.fieldLink RX11 17 "ArguedFerry" "texts" "[LArguedFerry$Text;" ∈ TG := TG_in (seg_2 (List.mem_of_getElem? (i := 11) (by decide +kernel))) rfl
theorem tw_318 : Cond.fieldLink RX11 24 "ArguedFerry" "tape" "LArguedFerry$Tape;" ∈ TG := TG_in (seg_2 (List.mem_of_getElem? (i := 12) (by decide +kernel))) rfl
theorem tw_319 : Cond.fieldLink RX11 30 "ArguedFerry" "sheets" "[LArguedFerry$Row;" ∈ TG := TG_in (seg_2 (List.mem_of_getElem? (i := 13) (by decide +kernel))) rfl
theorem tw_320 : Cond.fieldLink RX11 34 "ArguedFerry" "things" "[I" ∈ TG := TG_in (seg_2 (List.mem_of_getElem? (i := 14) (by decide +kernel))) rfl
theorem tw_321 : Cond.fieldLink RX11 40 "ArguedFerry" "laidPassengers" "[LArguedFerry$Passenger;" ∈ TG := TG_in (seg_2 (List.mem_of_getElem? (i := 15) (by decide +kernel))) rfl
theorem tw_322 : Cond.fieldLink RX11 44 "ArguedFerry" "laidRows" "[LArguedFerry$Row;" ∈ TG := TG_in (seg_2 (List.mem_of_getElem? (i := 16) (by decide +kernel))) rfl
theorem tw_323 : Cond.fieldLink RX11 47 "ArguedFerry" "laidNumbers" "[I" ∈ TG := TG_in (seg_2 (List.mem_of_getElem? (i := 17) (by decide +kernel))) rfl
theorem tw_324 : Cond.fieldLink RX11 50 "ArguedFerry" "waiting" "[I" ∈ TG := TG_in (seg_2 (List.mem_of_getElem? (i := 18) (by decide +kernel))) rfl
theorem tw_325 : Cond.fieldLink RX11 323 "ArguedFerry" "waits" "I" ∈ TG := TG_in (seg_2 (List.mem_of_getElem? (i := 19) (by decide +kernel))) rfl
theorem tw_326 : Cond.fieldLink RX11 53 "ArguedFerry" "partners" "[I" ∈ TG := TG_in (seg_2 (List.mem_of_getElem? (i := 20) (by decide +kernel))) rfl
theorem tw_327 : Cond.fieldLink RX11 56 "ArguedFerry" "mostPairs" "[I" ∈ TG := TG_in (seg_2 (List.mem_of_getElem? (i := 21) (by decide +kernel))) rfl
theorem tw_328 : Cond.fieldLink RX11 59 "ArguedFerry" "differences" "[I" ∈ TG := TG_in (seg_2 (List.mem_of_getElem? (i := 22) (by decide +kernel))) rfl
theorem tw_364 : Cond.methodLink RL 13 yX11_one ∈ TG := TG_in (seg_2 (List.mem_of_getElem? (i := 58) (by decide +kernel))) rfl
theorem tw_365 : Cond.instanceMethod yX11_one ∈ TG := TG_in (seg_2 (List.mem_of_getElem? (i := 59) (by decide +kernel))) rfl
theorem tw_366 : Cond.selects RX11 yX11_one yX11_one ∈ TG := TG_in (seg_2 (List.mem_of_getElem? (i := 60) (by decide +kernel))) rfl
theorem tw_367 : Cond.code yX11_one cX11_one 3 (some .int) ∈ TG := TG_in (seg_2 (List.mem_of_getElem? (i := 61) (by decide +kernel))) rfl
theorem tw_368 : Cond.methodLink RX11 98 yX11_isKind ∈ TG := TG_in (seg_2 (List.mem_of_getElem? (i := 62) (by decide +kernel))) rfl
theorem tw_369 : Cond.static yX11_isKind ∈ TG := TG_in (seg_2 (List.mem_of_getElem? (i := 63) (by decide +kernel))) rfl
theorem tw_370 : Cond.code yX11_isKind cX11_isKind 1 (some .boolean) ∈ TG := TG_in (seg_2 (List.mem_of_getElem? (i := 64) (by decide +kernel))) rfl
theorem tw_371 : Cond.methodLink RX11 145 yX11_within ∈ TG := TG_in (seg_2 (List.mem_of_getElem? (i := 65) (by decide +kernel))) rfl
theorem tw_372 : Cond.static yX11_within ∈ TG := TG_in (seg_2 (List.mem_of_getElem? (i := 66) (by decide +kernel))) rfl
theorem tw_373 : Cond.code yX11_within cX11_within 3 (some .boolean) ∈ TG := TG_in (seg_2 (List.mem_of_getElem? (i := 67) (by decide +kernel))) rfl
theorem tw_374 : Cond.methodLink RX11 102 yX11_isBank ∈ TG := TG_in (seg_2 (List.mem_of_getElem? (i := 68) (by decide +kernel))) rfl
theorem tw_375 : Cond.static yX11_isBank ∈ TG := TG_in (seg_2 (List.mem_of_getElem? (i := 69) (by decide +kernel))) rfl
theorem tw_376 : Cond.code yX11_isBank cX11_isBank 1 (some .boolean) ∈ TG := TG_in (seg_2 (List.mem_of_getElem? (i := 70) (by decide +kernel))) rfl
theorem tw_377 : Cond.constant RX11 105 (-1000000001) ∈ TG := TG_in (seg_2 (List.mem_of_getElem? (i := 71) (by decide +kernel))) rfl
theorem tw_378 : Cond.constant RX11 110 (-1000000003) ∈ TG := TG_in (seg_2 (List.mem_of_getElem? (i := 72) (by decide +kernel))) rfl
theorem tw_379 : Cond.methodLink RX11 114 yX4_begin ∈ TG := TG_in (seg_2 (List.mem_of_getElem? (i := 73) (by decide +kernel))) rfl
theorem tw_380 : Cond.instanceMethod yX4_begin ∈ TG := TG_in (seg_2 (List.mem_of_getElem? (i := 74) (by decide +kernel))) rfl
theorem tw_381 : Cond.selects RX4 yX4_begin yX4_begin ∈ TG := TG_in (seg_2 (List.mem_of_getElem? (i := 75) (by decide +kernel))) rfl
theorem tw_382 : Cond.code yX4_begin cX4_begin 3 none ∈ TG := TG_in (seg_2 (List.mem_of_getElem? (i := 76) (by decide +kernel))) rfl
theorem tw_383 : Cond.methodLink RX4 26 yJ7_fill_53178 ∈ TG := TG_in (seg_2 (List.mem_of_getElem? (i := 77) (by decide +kernel))) rfl
theorem tw_384 : Cond.static yJ7_fill_53178 ∈ TG := TG_in (seg_2 (List.mem_of_getElem? (i := 78) (by decide +kernel))) rfl
theorem tw_385 : Cond.code yJ7_fill_53178 cJ7_fill_53178 4 none ∈ TG := TG_in (seg_2 (List.mem_of_getElem? (i := 79) (by decide +kernel))) rfl
theorem tw_386 : Cond.methodLink RL 18 yX11_told ∈ TG := TG_in (seg_2 (List.mem_of_getElem? (i := 80) (by decide +kernel))) rfl
theorem tw_387 : Cond.instanceMethod yX11_told ∈ TG := TG_in (seg_2 (List.mem_of_getElem? (i := 81) (by decide +kernel))) rfl
theorem tw_388 : Cond.selects RX11 yX11_told yX11_told ∈ TG := TG_in (seg_2 (List.mem_of_getElem? (i := 82) (by decide +kernel))) rfl
theorem tw_389 : Cond.code yX11_told cX11_told 4 (some .int) ∈ TG := TG_in (seg_2 (List.mem_of_getElem? (i := 83) (by decide +kernel))) rfl
theorem tw_390 : Cond.methodLink RX11 118 yX11_isOne ∈ TG := TG_in (seg_2 (List.mem_of_getElem? (i := 84) (by decide +kernel))) rfl
theorem tw_392 : Cond.instanceMethod yX11_isOne ∈ TG := TG_in (seg_2 (List.mem_of_getElem? (i := 86) (by decide +kernel))) rfl
theorem tw_393 : Cond.code yX11_isOne cX11_isOne 2 (some .boolean) ∈ TG := TG_in (seg_2 (List.mem_of_getElem? (i := 87) (by decide +kernel))) rfl
theorem tw_394 : Cond.methodLink RX11 125 yX3_kind ∈ TG := TG_in (seg_2 (List.mem_of_getElem? (i := 88) (by decide +kernel))) rfl
theorem tw_395 : Cond.instanceMethod yX3_kind ∈ TG := TG_in (seg_2 (List.mem_of_getElem? (i := 89) (by decide +kernel))) rfl
theorem tw_396 : Cond.selects RX3 yX3_kind yX3_kind ∈ TG := TG_in (seg_2 (List.mem_of_getElem? (i := 90) (by decide +kernel))) rfl
theorem tw_397 : Cond.sameMethod "ArguedFerry$Nature" "ArguedFerry$Nature" "kind" "()I" ∈ TG := TG_in (seg_2 (List.mem_of_getElem? (i := 91) (by decide +kernel))) rfl
theorem tw_398 : Cond.selects RX0 yX3_kind yX0_kind ∈ TG := TG_in (seg_2 (List.mem_of_getElem? (i := 92) (by decide +kernel))) rfl
theorem tw_399 : Cond.instanceMethod yX0_kind ∈ TG := TG_in (seg_2 (List.mem_of_getElem? (i := 93) (by decide +kernel))) rfl
theorem tw_400 : Cond.code yX0_kind cX0_kind 1 (some .int) ∈ TG := TG_in (seg_2 (List.mem_of_getElem? (i := 94) (by decide +kernel))) rfl
theorem tw_401 : Cond.selects RX1 yX3_kind yX1_kind ∈ TG := TG_in (seg_2 (List.mem_of_getElem? (i := 95) (by decide +kernel))) rfl
theorem tw_402 : Cond.instanceMethod yX1_kind ∈ TG := TG_in (seg_2 (List.mem_of_getElem? (i := 96) (by decide +kernel))) rfl
theorem tw_403 : Cond.code yX1_kind cX1_kind 1 (some .int) ∈ TG := TG_in (seg_2 (List.mem_of_getElem? (i := 97) (by decide +kernel))) rfl
theorem tw_404 : Cond.selects RX2 yX3_kind yX2_kind ∈ TG := TG_in (seg_2 (List.mem_of_getElem? (i := 98) (by decide +kernel))) rfl
theorem tw_405 : Cond.instanceMethod yX2_kind ∈ TG := TG_in (seg_2 (List.mem_of_getElem? (i := 99) (by decide +kernel))) rfl
theorem tw_406 : Cond.code yX2_kind cX2_kind 1 (some .int) ∈ TG := TG_in (seg_2 (List.mem_of_getElem? (i := 100) (by decide +kernel))) rfl
theorem tw_407 : Cond.selects RX6 yX3_kind yX6_kind ∈ TG := TG_in (seg_2 (List.mem_of_getElem? (i := 101) (by decide +kernel))) rfl
theorem tw_408 : Cond.instanceMethod yX6_kind ∈ TG := TG_in (seg_2 (List.mem_of_getElem? (i := 102) (by decide +kernel))) rfl
theorem tw_409 : Cond.code yX6_kind cX6_kind 1 (some .int) ∈ TG := TG_in (seg_2 (List.mem_of_getElem? (i := 103) (by decide +kernel))) rfl
theorem tw_410 : Cond.selects RX9 yX3_kind yX9_kind ∈ TG := TG_in (seg_2 (List.mem_of_getElem? (i := 104) (by decide +kernel))) rfl
theorem tw_411 : Cond.instanceMethod yX9_kind ∈ TG := TG_in (seg_2 (List.mem_of_getElem? (i := 105) (by decide +kernel))) rfl
theorem tw_412 : Cond.code yX9_kind cX9_kind 1 (some .int) ∈ TG := TG_in (seg_2 (List.mem_of_getElem? (i := 106) (by decide +kernel))) rfl
theorem tw_413 : Cond.code yX3_kind cX3_kind 1 (some .int) ∈ TG := TG_in (seg_2 (List.mem_of_getElem? (i := 107) (by decide +kernel))) rfl
theorem tw_414 : Cond.methodLink RX11 135 yX3_worth ∈ TG := TG_in (seg_2 (List.mem_of_getElem? (i := 108) (by decide +kernel))) rfl
theorem tw_415 : Cond.instanceMethod yX3_worth ∈ TG := TG_in (seg_2 (List.mem_of_getElem? (i := 109) (by decide +kernel))) rfl
theorem tw_416 : Cond.selects RX3 yX3_worth yX3_worth ∈ TG := TG_in (seg_2 (List.mem_of_getElem? (i := 110) (by decide +kernel))) rfl
theorem tw_417 : Cond.sameMethod "ArguedFerry$Nature" "ArguedFerry$Nature" "worth" "(I)I" ∈ TG := TG_in (seg_2 (List.mem_of_getElem? (i := 111) (by decide +kernel))) rfl
theorem tw_418 : Cond.selects RX0 yX3_worth yX0_worth ∈ TG := TG_in (seg_2 (List.mem_of_getElem? (i := 112) (by decide +kernel))) rfl
theorem tw_419 : Cond.instanceMethod yX0_worth ∈ TG := TG_in (seg_2 (List.mem_of_getElem? (i := 113) (by decide +kernel))) rfl
theorem tw_420 : Cond.code yX0_worth cX0_worth 2 (some .int) ∈ TG := TG_in (seg_2 (List.mem_of_getElem? (i := 114) (by decide +kernel))) rfl
theorem tw_421 : Cond.selects RX1 yX3_worth yX1_worth ∈ TG := TG_in (seg_2 (List.mem_of_getElem? (i := 115) (by decide +kernel))) rfl
theorem tw_422 : Cond.instanceMethod yX1_worth ∈ TG := TG_in (seg_2 (List.mem_of_getElem? (i := 116) (by decide +kernel))) rfl
theorem tw_423 : Cond.code yX1_worth cX1_worth 2 (some .int) ∈ TG := TG_in (seg_2 (List.mem_of_getElem? (i := 117) (by decide +kernel))) rfl
theorem tw_424 : Cond.selects RX2 yX3_worth yX2_worth ∈ TG := TG_in (seg_2 (List.mem_of_getElem? (i := 118) (by decide +kernel))) rfl
theorem tw_425 : Cond.instanceMethod yX2_worth ∈ TG := TG_in (seg_2 (List.mem_of_getElem? (i := 119) (by decide +kernel))) rfl
theorem tw_426 : Cond.code yX2_worth cX2_worth 2 (some .int) ∈ TG := TG_in (seg_2 (List.mem_of_getElem? (i := 120) (by decide +kernel))) rfl
theorem tw_427 : Cond.selects RX6 yX3_worth yX6_worth ∈ TG := TG_in (seg_2 (List.mem_of_getElem? (i := 121) (by decide +kernel))) rfl
theorem tw_428 : Cond.instanceMethod yX6_worth ∈ TG := TG_in (seg_2 (List.mem_of_getElem? (i := 122) (by decide +kernel))) rfl
theorem tw_429 : Cond.code yX6_worth cX6_worth 2 (some .int) ∈ TG := TG_in (seg_2 (List.mem_of_getElem? (i := 123) (by decide +kernel))) rfl
theorem tw_430 : Cond.methodLink RX6 11 yX1_worth ∈ TG := TG_in (seg_2 (List.mem_of_getElem? (i := 124) (by decide +kernel))) rfl
theorem tw_431 : Cond.selects RX9 yX3_worth yX9_worth ∈ TG := TG_in (seg_2 (List.mem_of_getElem? (i := 125) (by decide +kernel))) rfl
theorem tw_432 : Cond.instanceMethod yX9_worth ∈ TG := TG_in (seg_2 (List.mem_of_getElem? (i := 126) (by decide +kernel))) rfl
theorem tw_433 : Cond.code yX9_worth cX9_worth 2 (some .int) ∈ TG := TG_in (seg_2 (List.mem_of_getElem? (i := 127) (by decide +kernel))) rfl
theorem tw_434 : Cond.methodLink RX9 24 yX2_worth ∈ TG := TG_in (seg_2 (List.mem_of_getElem? (i := 128) (by decide +kernel))) rfl
theorem tw_435 : Cond.code yX3_worth cX3_worth 2 (some .int) ∈ TG := TG_in (seg_2 (List.mem_of_getElem? (i := 129) (by decide +kernel))) rfl
theorem tw_436 : Cond.methodLink RL 22 yX11_view ∈ TG := TG_in (seg_2 (List.mem_of_getElem? (i := 130) (by decide +kernel))) rfl
theorem tw_437 : Cond.instanceMethod yX11_view ∈ TG := TG_in (seg_2 (List.mem_of_getElem? (i := 131) (by decide +kernel))) rfl
theorem tw_438 : Cond.selects RX11 yX11_view yX11_view ∈ TG := TG_in (seg_2 (List.mem_of_getElem? (i := 132) (by decide +kernel))) rfl
theorem tw_439 : Cond.code yX11_view cX11_view 3 (some .int) ∈ TG := TG_in (seg_2 (List.mem_of_getElem? (i := 133) (by decide +kernel))) rfl
theorem tw_440 : Cond.methodLink RX11 139 yX11_isMatter ∈ TG := TG_in (seg_2 (List.mem_of_getElem? (i := 134) (by decide +kernel))) rfl
theorem tw_441 : Cond.static yX11_isMatter ∈ TG := TG_in (seg_2 (List.mem_of_getElem? (i := 135) (by decide +kernel))) rfl
theorem tw_442 : Cond.code yX11_isMatter cX11_isMatter 1 (some .boolean) ∈ TG := TG_in (seg_2 (List.mem_of_getElem? (i := 136) (by decide +kernel))) rfl
theorem tw_443 : Cond.methodLink RL 26 yX11_believes ∈ TG := TG_in (seg_2 (List.mem_of_getElem? (i := 137) (by decide +kernel))) rfl
theorem tw_444 : Cond.instanceMethod yX11_believes ∈ TG := TG_in (seg_2 (List.mem_of_getElem? (i := 138) (by decide +kernel))) rfl
theorem tw_445 : Cond.selects RX11 yX11_believes yX11_believes ∈ TG := TG_in (seg_2 (List.mem_of_getElem? (i := 139) (by decide +kernel))) rfl
theorem tw_446 : Cond.code yX11_believes cX11_believes 6 (some .int) ∈ TG := TG_in (seg_2 (List.mem_of_getElem? (i := 140) (by decide +kernel))) rfl
theorem tw_447 : Cond.methodLink RL 31 yX11_as ∈ TG := TG_in (seg_2 (List.mem_of_getElem? (i := 141) (by decide +kernel))) rfl
theorem tw_448 : Cond.instanceMethod yX11_as ∈ TG := TG_in (seg_2 (List.mem_of_getElem? (i := 142) (by decide +kernel))) rfl
theorem tw_449 : Cond.selects RX11 yX11_as yX11_as ∈ TG := TG_in (seg_2 (List.mem_of_getElem? (i := 143) (by decide +kernel))) rfl
theorem tw_450 : Cond.code yX11_as cX11_as 4 (some .int) ∈ TG := TG_in (seg_2 (List.mem_of_getElem? (i := 144) (by decide +kernel))) rfl
theorem tw_451 : Cond.methodLink RX11 149 yX3_isOf ∈ TG := TG_in (seg_2 (List.mem_of_getElem? (i := 145) (by decide +kernel))) rfl
theorem tw_452 : Cond.instanceMethod yX3_isOf ∈ TG := TG_in (seg_2 (List.mem_of_getElem? (i := 146) (by decide +kernel))) rfl
theorem tw_453 : Cond.selects RX3 yX3_isOf yX3_isOf ∈ TG := TG_in (seg_2 (List.mem_of_getElem? (i := 147) (by decide +kernel))) rfl
theorem tw_454 : Cond.sameMethod "ArguedFerry$Nature" "ArguedFerry$Nature" "isOf" "(I)Z" ∈ TG := TG_in (seg_2 (List.mem_of_getElem? (i := 148) (by decide +kernel))) rfl
theorem tw_455 : Cond.selects RX0 yX3_isOf yX0_isOf ∈ TG := TG_in (seg_2 (List.mem_of_getElem? (i := 149) (by decide +kernel))) rfl
theorem tw_456 : Cond.instanceMethod yX0_isOf ∈ TG := TG_in (seg_2 (List.mem_of_getElem? (i := 150) (by decide +kernel))) rfl
theorem tw_457 : Cond.code yX0_isOf cX0_isOf 2 (some .boolean) ∈ TG := TG_in (seg_2 (List.mem_of_getElem? (i := 151) (by decide +kernel))) rfl
theorem tw_458 : Cond.methodLink RX0 7 yX3_isOf ∈ TG := TG_in (seg_2 (List.mem_of_getElem? (i := 152) (by decide +kernel))) rfl
theorem tw_459 : Cond.selects RX1 yX3_isOf yX1_isOf ∈ TG := TG_in (seg_2 (List.mem_of_getElem? (i := 153) (by decide +kernel))) rfl
theorem tw_460 : Cond.instanceMethod yX1_isOf ∈ TG := TG_in (seg_2 (List.mem_of_getElem? (i := 154) (by decide +kernel))) rfl
theorem tw_461 : Cond.code yX1_isOf cX1_isOf 2 (some .boolean) ∈ TG := TG_in (seg_2 (List.mem_of_getElem? (i := 155) (by decide +kernel))) rfl
theorem tw_462 : Cond.methodLink RX1 9 yX3_isOf ∈ TG := TG_in (seg_2 (List.mem_of_getElem? (i := 156) (by decide +kernel))) rfl
theorem tw_463 : Cond.selects RX2 yX3_isOf yX2_isOf ∈ TG := TG_in (seg_2 (List.mem_of_getElem? (i := 157) (by decide +kernel))) rfl
theorem tw_464 : Cond.instanceMethod yX2_isOf ∈ TG := TG_in (seg_2 (List.mem_of_getElem? (i := 158) (by decide +kernel))) rfl
theorem tw_465 : Cond.code yX2_isOf cX2_isOf 2 (some .boolean) ∈ TG := TG_in (seg_2 (List.mem_of_getElem? (i := 159) (by decide +kernel))) rfl
theorem tw_466 : Cond.methodLink RX2 7 yX3_isOf ∈ TG := TG_in (seg_2 (List.mem_of_getElem? (i := 160) (by decide +kernel))) rfl
theorem tw_467 : Cond.selects RX6 yX3_isOf yX6_isOf ∈ TG := TG_in (seg_2 (List.mem_of_getElem? (i := 161) (by decide +kernel))) rfl
theorem tw_468 : Cond.instanceMethod yX6_isOf ∈ TG := TG_in (seg_2 (List.mem_of_getElem? (i := 162) (by decide +kernel))) rfl
theorem tw_469 : Cond.code yX6_isOf cX6_isOf 2 (some .boolean) ∈ TG := TG_in (seg_2 (List.mem_of_getElem? (i := 163) (by decide +kernel))) rfl
theorem tw_470 : Cond.methodLink RX6 7 yX1_isOf ∈ TG := TG_in (seg_2 (List.mem_of_getElem? (i := 164) (by decide +kernel))) rfl
theorem tw_471 : Cond.selects RX9 yX3_isOf yX9_isOf ∈ TG := TG_in (seg_2 (List.mem_of_getElem? (i := 165) (by decide +kernel))) rfl
theorem tw_472 : Cond.instanceMethod yX9_isOf ∈ TG := TG_in (seg_2 (List.mem_of_getElem? (i := 166) (by decide +kernel))) rfl
theorem tw_473 : Cond.code yX9_isOf cX9_isOf 2 (some .boolean) ∈ TG := TG_in (seg_2 (List.mem_of_getElem? (i := 167) (by decide +kernel))) rfl
theorem tw_474 : Cond.methodLink RX9 7 yX2_isOf ∈ TG := TG_in (seg_2 (List.mem_of_getElem? (i := 168) (by decide +kernel))) rfl
theorem tw_475 : Cond.code yX3_isOf cX3_isOf 2 (some .boolean) ∈ TG := TG_in (seg_2 (List.mem_of_getElem? (i := 169) (by decide +kernel))) rfl
theorem tw_476 : Cond.constant RX11 152 (-1000000012) ∈ TG := TG_in (seg_2 (List.mem_of_getElem? (i := 170) (by decide +kernel))) rfl
theorem tw_477 : Cond.methodLink RL 35 yX11_turns ∈ TG := TG_in (seg_2 (List.mem_of_getElem? (i := 171) (by decide +kernel))) rfl
theorem tw_478 : Cond.instanceMethod yX11_turns ∈ TG := TG_in (seg_2 (List.mem_of_getElem? (i := 172) (by decide +kernel))) rfl
theorem tw_479 : Cond.selects RX11 yX11_turns yX11_turns ∈ TG := TG_in (seg_2 (List.mem_of_getElem? (i := 173) (by decide +kernel))) rfl
theorem tw_480 : Cond.code yX11_turns cX11_turns 5 (some .int) ∈ TG := TG_in (seg_2 (List.mem_of_getElem? (i := 174) (by decide +kernel))) rfl
theorem tw_481 : Cond.methodLink RL 39 yX11_set ∈ TG := TG_in (seg_2 (List.mem_of_getElem? (i := 175) (by decide +kernel))) rfl
theorem tw_482 : Cond.instanceMethod yX11_set ∈ TG := TG_in (seg_2 (List.mem_of_getElem? (i := 176) (by decide +kernel))) rfl
theorem tw_483 : Cond.selects RX11 yX11_set yX11_set ∈ TG := TG_in (seg_2 (List.mem_of_getElem? (i := 177) (by decide +kernel))) rfl
theorem tw_484 : Cond.code yX11_set cX11_set 6 (some .int) ∈ TG := TG_in (seg_2 (List.mem_of_getElem? (i := 178) (by decide +kernel))) rfl
theorem tw_485 : Cond.constant RX11 153 (-1000000002) ∈ TG := TG_in (seg_2 (List.mem_of_getElem? (i := 179) (by decide +kernel))) rfl
theorem tw_486 : Cond.methodLink RL 43 yX11_rule ∈ TG := TG_in (seg_2 (List.mem_of_getElem? (i := 180) (by decide +kernel))) rfl
theorem tw_487 : Cond.instanceMethod yX11_rule ∈ TG := TG_in (seg_2 (List.mem_of_getElem? (i := 181) (by decide +kernel))) rfl
theorem tw_488 : Cond.selects RX11 yX11_rule yX11_rule ∈ TG := TG_in (seg_2 (List.mem_of_getElem? (i := 182) (by decide +kernel))) rfl
theorem tw_489 : Cond.code yX11_rule cX11_rule 4 (some .int) ∈ TG := TG_in (seg_2 (List.mem_of_getElem? (i := 183) (by decide +kernel))) rfl
theorem tw_490 : Cond.methodLink RL 47 yX11_deal ∈ TG := TG_in (seg_2 (List.mem_of_getElem? (i := 184) (by decide +kernel))) rfl
theorem tw_491 : Cond.instanceMethod yX11_deal ∈ TG := TG_in (seg_2 (List.mem_of_getElem? (i := 185) (by decide +kernel))) rfl
theorem tw_492 : Cond.selects RX11 yX11_deal yX11_deal ∈ TG := TG_in (seg_2 (List.mem_of_getElem? (i := 186) (by decide +kernel))) rfl
theorem tw_493 : Cond.code yX11_deal cX11_deal 8 (some .int) ∈ TG := TG_in (seg_2 (List.mem_of_getElem? (i := 187) (by decide +kernel))) rfl
theorem tw_494 : Cond.methodLink RX11 160 yJ9_min_7cf53 ∈ TG := TG_in (seg_2 (List.mem_of_getElem? (i := 188) (by decide +kernel))) rfl
theorem tw_495 : Cond.static yJ9_min_7cf53 ∈ TG := TG_in (seg_2 (List.mem_of_getElem? (i := 189) (by decide +kernel))) rfl
theorem tw_496 : Cond.code yJ9_min_7cf53 cJ9_min_7cf53 2 (some .int) ∈ TG := TG_in (seg_2 (List.mem_of_getElem? (i := 190) (by decide +kernel))) rfl
theorem tw_497 : Cond.methodLink RX11 166 yX10_draw ∈ TG := TG_in (seg_2 (List.mem_of_getElem? (i := 191) (by decide +kernel))) rfl
theorem tw_498 : Cond.instanceMethod yX10_draw ∈ TG := TG_in (seg_2 (List.mem_of_getElem? (i := 192) (by decide +kernel))) rfl
theorem tw_499 : Cond.selects RX10 yX10_draw yX10_draw ∈ TG := TG_in (seg_2 (List.mem_of_getElem? (i := 193) (by decide +kernel))) rfl
theorem tw_500 : Cond.code yX10_draw cX10_draw 1 (some .int) ∈ TG := TG_in (seg_2 (List.mem_of_getElem? (i := 194) (by decide +kernel))) rfl
theorem tw_501 : Cond.constant RX10 74 (1103515245) ∈ TG := TG_in (seg_2 (List.mem_of_getElem? (i := 195) (by decide +kernel))) rfl
theorem tw_502 : Cond.methodLink RL 52 yX11_seed ∈ TG := TG_in (seg_2 (List.mem_of_getElem? (i := 196) (by decide +kernel))) rfl
theorem tw_503 : Cond.instanceMethod yX11_seed ∈ TG := TG_in (seg_2 (List.mem_of_getElem? (i := 197) (by decide +kernel))) rfl
theorem tw_504 : Cond.selects RX11 yX11_seed yX11_seed ∈ TG := TG_in (seg_2 (List.mem_of_getElem? (i := 198) (by decide +kernel))) rfl
theorem tw_505 : Cond.code yX11_seed cX11_seed 3 (some .int) ∈ TG := TG_in (seg_2 (List.mem_of_getElem? (i := 199) (by decide +kernel))) rfl
theorem tw_506 : Cond.methodLink RL 56 yX11_boat ∈ TG := TG_in (seg_2 (List.mem_of_getElem? (i := 200) (by decide +kernel))) rfl
theorem tw_507 : Cond.instanceMethod yX11_boat ∈ TG := TG_in (seg_2 (List.mem_of_getElem? (i := 201) (by decide +kernel))) rfl
theorem tw_508 : Cond.selects RX11 yX11_boat yX11_boat ∈ TG := TG_in (seg_2 (List.mem_of_getElem? (i := 202) (by decide +kernel))) rfl
theorem tw_509 : Cond.code yX11_boat cX11_boat 3 (some .int) ∈ TG := TG_in (seg_2 (List.mem_of_getElem? (i := 203) (by decide +kernel))) rfl
theorem tw_510 : Cond.constant RX11 181 (-1000000005) ∈ TG := TG_in (seg_2 (List.mem_of_getElem? (i := 204) (by decide +kernel))) rfl
theorem tw_511 : Cond.methodLink RL 60 yX11_argues ∈ TG := TG_in (seg_2 (List.mem_of_getElem? (i := 205) (by decide +kernel))) rfl
theorem tw_512 : Cond.instanceMethod yX11_argues ∈ TG := TG_in (seg_2 (List.mem_of_getElem? (i := 206) (by decide +kernel))) rfl
theorem tw_513 : Cond.selects RX11 yX11_argues yX11_argues ∈ TG := TG_in (seg_2 (List.mem_of_getElem? (i := 207) (by decide +kernel))) rfl
theorem tw_514 : Cond.code yX11_argues cX11_argues 8 (some .int) ∈ TG := TG_in (seg_2 (List.mem_of_getElem? (i := 208) (by decide +kernel))) rfl
theorem tw_515 : Cond.methodLink RX11 188 yX11_areTwo ∈ TG := TG_in (seg_2 (List.mem_of_getElem? (i := 209) (by decide +kernel))) rfl
theorem tw_517 : Cond.instanceMethod yX11_areTwo ∈ TG := TG_in (seg_2 (List.mem_of_getElem? (i := 211) (by decide +kernel))) rfl
theorem tw_518 : Cond.code yX11_areTwo cX11_areTwo 3 (some .boolean) ∈ TG := TG_in (seg_2 (List.mem_of_getElem? (i := 212) (by decide +kernel))) rfl
theorem tw_519 : Cond.methodLink RX11 192 yX4_apartFrom ∈ TG := TG_in (seg_2 (List.mem_of_getElem? (i := 213) (by decide +kernel))) rfl
theorem tw_520 : Cond.instanceMethod yX4_apartFrom ∈ TG := TG_in (seg_2 (List.mem_of_getElem? (i := 214) (by decide +kernel))) rfl
theorem tw_521 : Cond.selects RX4 yX4_apartFrom yX4_apartFrom ∈ TG := TG_in (seg_2 (List.mem_of_getElem? (i := 215) (by decide +kernel))) rfl
theorem tw_522 : Cond.code yX4_apartFrom cX4_apartFrom 3 (some .int) ∈ TG := TG_in (seg_2 (List.mem_of_getElem? (i := 216) (by decide +kernel))) rfl
theorem tw_523 : Cond.methodLink RX4 38 yJ9_abs_0f7a4 ∈ TG := TG_in (seg_2 (List.mem_of_getElem? (i := 217) (by decide +kernel))) rfl
theorem tw_524 : Cond.static yJ9_abs_0f7a4 ∈ TG := TG_in (seg_2 (List.mem_of_getElem? (i := 218) (by decide +kernel))) rfl
theorem tw_525 : Cond.code yJ9_abs_0f7a4 cJ9_abs_0f7a4 1 (some .int) ∈ TG := TG_in (seg_2 (List.mem_of_getElem? (i := 219) (by decide +kernel))) rfl
theorem tw_526 : Cond.methodLink RX11 196 yX10_speechOf ∈ TG := TG_in (seg_2 (List.mem_of_getElem? (i := 220) (by decide +kernel))) rfl
theorem tw_527 : Cond.instanceMethod yX10_speechOf ∈ TG := TG_in (seg_2 (List.mem_of_getElem? (i := 221) (by decide +kernel))) rfl
theorem tw_528 : Cond.selects RX10 yX10_speechOf yX10_speechOf ∈ TG := TG_in (seg_2 (List.mem_of_getElem? (i := 222) (by decide +kernel))) rfl
theorem tw_529 : Cond.code yX10_speechOf cX10_speechOf 5 (some .int) ∈ TG := TG_in (seg_2 (List.mem_of_getElem? (i := 223) (by decide +kernel))) rfl
theorem tw_530 : Cond.methodLink RX10 86 yX8_valueOf ∈ TG := TG_in (seg_2 (List.mem_of_getElem? (i := 224) (by decide +kernel))) rfl
theorem tw_531 : Cond.instanceMethod yX8_valueOf ∈ TG := TG_in (seg_2 (List.mem_of_getElem? (i := 225) (by decide +kernel))) rfl
theorem tw_532 : Cond.selects RX8 yX8_valueOf yX8_valueOf ∈ TG := TG_in (seg_2 (List.mem_of_getElem? (i := 226) (by decide +kernel))) rfl
theorem tw_533 : Cond.code yX8_valueOf cX8_valueOf 7 (some .int) ∈ TG := TG_in (seg_2 (List.mem_of_getElem? (i := 227) (by decide +kernel))) rfl
theorem tw_534 : Cond.methodLink RX8 35 yX8_workedOut ∈ TG := TG_in (seg_2 (List.mem_of_getElem? (i := 228) (by decide +kernel))) rfl
theorem tw_535 : Cond.static yX8_workedOut ∈ TG := TG_in (seg_2 (List.mem_of_getElem? (i := 229) (by decide +kernel))) rfl
theorem tw_536 : Cond.code yX8_workedOut cX8_workedOut 3 (some .int) ∈ TG := TG_in (seg_2 (List.mem_of_getElem? (i := 230) (by decide +kernel))) rfl
theorem tn_537 : Cond.methodLinkNest RX10 94 yX11_held "ArguedFerry" ∈ lw_tbl := seg_2 (List.mem_of_getElem? (i := 231) (by decide +kernel))
theorem tw_538 : Cond.static yX11_held ∈ TG := TG_in (seg_2 (List.mem_of_getElem? (i := 232) (by decide +kernel))) rfl
theorem tw_539 : Cond.code yX11_held cX11_held 1 (some .int) ∈ TG := TG_in (seg_2 (List.mem_of_getElem? (i := 233) (by decide +kernel))) rfl
theorem tw_540 : Cond.methodLink RX11 333 yJ9_max_7cf53 ∈ TG := TG_in (seg_2 (List.mem_of_getElem? (i := 234) (by decide +kernel))) rfl
theorem tw_541 : Cond.static yJ9_max_7cf53 ∈ TG := TG_in (seg_2 (List.mem_of_getElem? (i := 235) (by decide +kernel))) rfl
theorem tw_542 : Cond.code yJ9_max_7cf53 cJ9_max_7cf53 2 (some .int) ∈ TG := TG_in (seg_2 (List.mem_of_getElem? (i := 236) (by decide +kernel))) rfl
theorem tw_543 : Cond.methodLink RX10 98 yX3_speaks ∈ TG := TG_in (seg_2 (List.mem_of_getElem? (i := 237) (by decide +kernel))) rfl
theorem tw_544 : Cond.instanceMethod yX3_speaks ∈ TG := TG_in (seg_2 (List.mem_of_getElem? (i := 238) (by decide +kernel))) rfl
theorem tw_545 : Cond.selects RX3 yX3_speaks yX3_speaks ∈ TG := TG_in (seg_2 (List.mem_of_getElem? (i := 239) (by decide +kernel))) rfl
theorem tw_546 : Cond.sameMethod "ArguedFerry$Nature" "ArguedFerry$Nature" "speaks" "(II)I" ∈ TG := TG_in (seg_3 (List.mem_of_getElem? (i := 0) (by decide +kernel))) rfl
theorem tw_547 : Cond.selects RX0 yX3_speaks yX3_speaks ∈ TG := TG_in (seg_3 (List.mem_of_getElem? (i := 1) (by decide +kernel))) rfl
theorem tw_548 : Cond.selects RX1 yX3_speaks yX1_speaks ∈ TG := TG_in (seg_3 (List.mem_of_getElem? (i := 2) (by decide +kernel))) rfl
theorem tw_549 : Cond.instanceMethod yX1_speaks ∈ TG := TG_in (seg_3 (List.mem_of_getElem? (i := 3) (by decide +kernel))) rfl
theorem tw_550 : Cond.code yX1_speaks cX1_speaks 3 (some .int) ∈ TG := TG_in (seg_3 (List.mem_of_getElem? (i := 4) (by decide +kernel))) rfl
theorem tw_551 : Cond.selects RX2 yX3_speaks yX2_speaks ∈ TG := TG_in (seg_3 (List.mem_of_getElem? (i := 5) (by decide +kernel))) rfl
theorem tw_552 : Cond.instanceMethod yX2_speaks ∈ TG := TG_in (seg_3 (List.mem_of_getElem? (i := 6) (by decide +kernel))) rfl
theorem tw_553 : Cond.code yX2_speaks cX2_speaks 3 (some .int) ∈ TG := TG_in (seg_3 (List.mem_of_getElem? (i := 7) (by decide +kernel))) rfl
theorem tw_554 : Cond.selects RX6 yX3_speaks yX6_speaks ∈ TG := TG_in (seg_3 (List.mem_of_getElem? (i := 8) (by decide +kernel))) rfl
theorem tw_555 : Cond.instanceMethod yX6_speaks ∈ TG := TG_in (seg_3 (List.mem_of_getElem? (i := 9) (by decide +kernel))) rfl
theorem tw_556 : Cond.code yX6_speaks cX6_speaks 3 (some .int) ∈ TG := TG_in (seg_3 (List.mem_of_getElem? (i := 10) (by decide +kernel))) rfl
theorem tw_557 : Cond.selects RX9 yX3_speaks yX9_speaks ∈ TG := TG_in (seg_3 (List.mem_of_getElem? (i := 11) (by decide +kernel))) rfl
theorem tw_558 : Cond.instanceMethod yX9_speaks ∈ TG := TG_in (seg_3 (List.mem_of_getElem? (i := 12) (by decide +kernel))) rfl
theorem tw_559 : Cond.code yX9_speaks cX9_speaks 3 (some .int) ∈ TG := TG_in (seg_3 (List.mem_of_getElem? (i := 13) (by decide +kernel))) rfl
theorem tw_560 : Cond.methodLink RX9 11 yX2_speaks ∈ TG := TG_in (seg_3 (List.mem_of_getElem? (i := 14) (by decide +kernel))) rfl
theorem tw_561 : Cond.code yX3_speaks cX3_speaks 3 (some .int) ∈ TG := TG_in (seg_3 (List.mem_of_getElem? (i := 15) (by decide +kernel))) rfl
theorem tw_562 : Cond.methodLink RX11 199 yX3_heats ∈ TG := TG_in (seg_3 (List.mem_of_getElem? (i := 16) (by decide +kernel))) rfl
theorem tw_563 : Cond.instanceMethod yX3_heats ∈ TG := TG_in (seg_3 (List.mem_of_getElem? (i := 17) (by decide +kernel))) rfl
theorem tw_564 : Cond.selects RX3 yX3_heats yX3_heats ∈ TG := TG_in (seg_3 (List.mem_of_getElem? (i := 18) (by decide +kernel))) rfl
theorem tw_565 : Cond.sameMethod "ArguedFerry$Nature" "ArguedFerry$Nature" "heats" "(I)I" ∈ TG := TG_in (seg_3 (List.mem_of_getElem? (i := 19) (by decide +kernel))) rfl
theorem tw_566 : Cond.selects RX0 yX3_heats yX0_heats ∈ TG := TG_in (seg_3 (List.mem_of_getElem? (i := 20) (by decide +kernel))) rfl
theorem tw_567 : Cond.instanceMethod yX0_heats ∈ TG := TG_in (seg_3 (List.mem_of_getElem? (i := 21) (by decide +kernel))) rfl
theorem tw_568 : Cond.code yX0_heats cX0_heats 2 (some .int) ∈ TG := TG_in (seg_3 (List.mem_of_getElem? (i := 22) (by decide +kernel))) rfl
theorem tw_569 : Cond.selects RX1 yX3_heats yX1_heats ∈ TG := TG_in (seg_3 (List.mem_of_getElem? (i := 23) (by decide +kernel))) rfl
theorem tw_570 : Cond.instanceMethod yX1_heats ∈ TG := TG_in (seg_3 (List.mem_of_getElem? (i := 24) (by decide +kernel))) rfl
theorem tw_571 : Cond.code yX1_heats cX1_heats 2 (some .int) ∈ TG := TG_in (seg_3 (List.mem_of_getElem? (i := 25) (by decide +kernel))) rfl
theorem tw_572 : Cond.selects RX2 yX3_heats yX2_heats ∈ TG := TG_in (seg_3 (List.mem_of_getElem? (i := 26) (by decide +kernel))) rfl
theorem tw_573 : Cond.instanceMethod yX2_heats ∈ TG := TG_in (seg_3 (List.mem_of_getElem? (i := 27) (by decide +kernel))) rfl
theorem tw_574 : Cond.code yX2_heats cX2_heats 2 (some .int) ∈ TG := TG_in (seg_3 (List.mem_of_getElem? (i := 28) (by decide +kernel))) rfl
theorem tw_575 : Cond.selects RX6 yX3_heats yX1_heats ∈ TG := TG_in (seg_3 (List.mem_of_getElem? (i := 29) (by decide +kernel))) rfl
theorem tw_576 : Cond.selects RX9 yX3_heats yX9_heats ∈ TG := TG_in (seg_3 (List.mem_of_getElem? (i := 30) (by decide +kernel))) rfl
theorem tw_577 : Cond.instanceMethod yX9_heats ∈ TG := TG_in (seg_3 (List.mem_of_getElem? (i := 31) (by decide +kernel))) rfl
theorem tw_578 : Cond.code yX9_heats cX9_heats 2 (some .int) ∈ TG := TG_in (seg_3 (List.mem_of_getElem? (i := 32) (by decide +kernel))) rfl
theorem tw_579 : Cond.methodLink RX9 15 yX2_heats ∈ TG := TG_in (seg_3 (List.mem_of_getElem? (i := 33) (by decide +kernel))) rfl
theorem tw_580 : Cond.methodLink RX9 19 yJ9_max_7cf53 ∈ TG := TG_in (seg_3 (List.mem_of_getElem? (i := 34) (by decide +kernel))) rfl
theorem tw_581 : Cond.code yX3_heats cX3_heats 2 (some .int) ∈ TG := TG_in (seg_3 (List.mem_of_getElem? (i := 35) (by decide +kernel))) rfl
theorem tw_582 : Cond.methodLink RX11 202 yX3_shifts ∈ TG := TG_in (seg_3 (List.mem_of_getElem? (i := 36) (by decide +kernel))) rfl
theorem tw_583 : Cond.instanceMethod yX3_shifts ∈ TG := TG_in (seg_3 (List.mem_of_getElem? (i := 37) (by decide +kernel))) rfl
theorem tw_584 : Cond.selects RX3 yX3_shifts yX3_shifts ∈ TG := TG_in (seg_3 (List.mem_of_getElem? (i := 38) (by decide +kernel))) rfl
theorem tw_585 : Cond.sameMethod "ArguedFerry$Nature" "ArguedFerry$Nature" "shifts" "(II)I" ∈ TG := TG_in (seg_3 (List.mem_of_getElem? (i := 39) (by decide +kernel))) rfl
theorem tw_586 : Cond.selects RX0 yX3_shifts yX0_shifts ∈ TG := TG_in (seg_3 (List.mem_of_getElem? (i := 40) (by decide +kernel))) rfl
theorem tw_587 : Cond.instanceMethod yX0_shifts ∈ TG := TG_in (seg_3 (List.mem_of_getElem? (i := 41) (by decide +kernel))) rfl
theorem tw_588 : Cond.code yX0_shifts cX0_shifts 3 (some .int) ∈ TG := TG_in (seg_3 (List.mem_of_getElem? (i := 42) (by decide +kernel))) rfl
theorem tw_589 : Cond.selects RX1 yX3_shifts yX1_shifts ∈ TG := TG_in (seg_3 (List.mem_of_getElem? (i := 43) (by decide +kernel))) rfl
theorem tw_590 : Cond.instanceMethod yX1_shifts ∈ TG := TG_in (seg_3 (List.mem_of_getElem? (i := 44) (by decide +kernel))) rfl
theorem tw_591 : Cond.code yX1_shifts cX1_shifts 3 (some .int) ∈ TG := TG_in (seg_3 (List.mem_of_getElem? (i := 45) (by decide +kernel))) rfl
theorem tw_592 : Cond.methodLink RX1 13 yJ9_max_7cf53 ∈ TG := TG_in (seg_3 (List.mem_of_getElem? (i := 46) (by decide +kernel))) rfl
theorem tw_593 : Cond.methodLink RX1 19 yJ9_min_7cf53 ∈ TG := TG_in (seg_3 (List.mem_of_getElem? (i := 47) (by decide +kernel))) rfl
theorem tw_594 : Cond.selects RX2 yX3_shifts yX3_shifts ∈ TG := TG_in (seg_3 (List.mem_of_getElem? (i := 48) (by decide +kernel))) rfl
theorem tw_595 : Cond.selects RX6 yX3_shifts yX6_shifts ∈ TG := TG_in (seg_3 (List.mem_of_getElem? (i := 49) (by decide +kernel))) rfl
theorem tw_596 : Cond.instanceMethod yX6_shifts ∈ TG := TG_in (seg_3 (List.mem_of_getElem? (i := 50) (by decide +kernel))) rfl
theorem tw_597 : Cond.code yX6_shifts cX6_shifts 3 (some .int) ∈ TG := TG_in (seg_3 (List.mem_of_getElem? (i := 51) (by decide +kernel))) rfl
theorem tw_598 : Cond.selects RX9 yX3_shifts yX9_shifts ∈ TG := TG_in (seg_3 (List.mem_of_getElem? (i := 52) (by decide +kernel))) rfl
theorem tw_599 : Cond.instanceMethod yX9_shifts ∈ TG := TG_in (seg_3 (List.mem_of_getElem? (i := 53) (by decide +kernel))) rfl
theorem tw_600 : Cond.code yX9_shifts cX9_shifts 3 (some .int) ∈ TG := TG_in (seg_3 (List.mem_of_getElem? (i := 54) (by decide +kernel))) rfl
theorem tw_601 : Cond.code yX3_shifts cX3_shifts 3 (some .int) ∈ TG := TG_in (seg_3 (List.mem_of_getElem? (i := 55) (by decide +kernel))) rfl
theorem tw_602 : Cond.methodLink RL 65 yX11_minutes ∈ TG := TG_in (seg_3 (List.mem_of_getElem? (i := 56) (by decide +kernel))) rfl
theorem tw_603 : Cond.instanceMethod yX11_minutes ∈ TG := TG_in (seg_3 (List.mem_of_getElem? (i := 57) (by decide +kernel))) rfl
theorem tw_604 : Cond.selects RX11 yX11_minutes yX11_minutes ∈ TG := TG_in (seg_3 (List.mem_of_getElem? (i := 58) (by decide +kernel))) rfl
theorem tw_605 : Cond.code yX11_minutes cX11_minutes 4 (some .int) ∈ TG := TG_in (seg_3 (List.mem_of_getElem? (i := 59) (by decide +kernel))) rfl
theorem tw_606 : Cond.methodLink RX11 211 yX10_passMinute ∈ TG := TG_in (seg_3 (List.mem_of_getElem? (i := 60) (by decide +kernel))) rfl
theorem tw_607 : Cond.instanceMethod yX10_passMinute ∈ TG := TG_in (seg_3 (List.mem_of_getElem? (i := 61) (by decide +kernel))) rfl
theorem tw_608 : Cond.selects RX10 yX10_passMinute yX10_passMinute ∈ TG := TG_in (seg_3 (List.mem_of_getElem? (i := 62) (by decide +kernel))) rfl
theorem tw_609 : Cond.code yX10_passMinute cX10_passMinute 1 none ∈ TG := TG_in (seg_3 (List.mem_of_getElem? (i := 63) (by decide +kernel))) rfl
theorem tw_610 : Cond.methodLink RX10 107 yX10_argueOn ∈ TG := TG_in (seg_3 (List.mem_of_getElem? (i := 64) (by decide +kernel))) rfl
theorem tw_612 : Cond.instanceMethod yX10_argueOn ∈ TG := TG_in (seg_3 (List.mem_of_getElem? (i := 66) (by decide +kernel))) rfl
theorem tw_613 : Cond.code yX10_argueOn cX10_argueOn 4 none ∈ TG := TG_in (seg_3 (List.mem_of_getElem? (i := 67) (by decide +kernel))) rfl
theorem tw_614 : Cond.methodLink RX10 126 yX4_apartFrom ∈ TG := TG_in (seg_3 (List.mem_of_getElem? (i := 68) (by decide +kernel))) rfl
theorem tw_615 : Cond.methodLink RX10 130 yX10_speechOf ∈ TG := TG_in (seg_3 (List.mem_of_getElem? (i := 69) (by decide +kernel))) rfl
theorem tw_616 : Cond.methodLink RX10 133 yX4_heatUp ∈ TG := TG_in (seg_3 (List.mem_of_getElem? (i := 70) (by decide +kernel))) rfl
theorem tw_617 : Cond.instanceMethod yX4_heatUp ∈ TG := TG_in (seg_3 (List.mem_of_getElem? (i := 71) (by decide +kernel))) rfl
theorem tw_618 : Cond.selects RX4 yX4_heatUp yX4_heatUp ∈ TG := TG_in (seg_3 (List.mem_of_getElem? (i := 72) (by decide +kernel))) rfl
theorem tw_619 : Cond.code yX4_heatUp cX4_heatUp 2 none ∈ TG := TG_in (seg_3 (List.mem_of_getElem? (i := 73) (by decide +kernel))) rfl
theorem tw_620 : Cond.methodLink RX4 44 yX3_heats ∈ TG := TG_in (seg_3 (List.mem_of_getElem? (i := 74) (by decide +kernel))) rfl
theorem tw_621 : Cond.methodLink RX4 49 yJ9_min_7cf53 ∈ TG := TG_in (seg_3 (List.mem_of_getElem? (i := 75) (by decide +kernel))) rfl
theorem tw_622 : Cond.methodLink RX10 137 yX10_goAshore ∈ TG := TG_in (seg_3 (List.mem_of_getElem? (i := 76) (by decide +kernel))) rfl
theorem tw_624 : Cond.instanceMethod yX10_goAshore ∈ TG := TG_in (seg_3 (List.mem_of_getElem? (i := 78) (by decide +kernel))) rfl
theorem tw_625 : Cond.code yX10_goAshore cX10_goAshore 1 none ∈ TG := TG_in (seg_3 (List.mem_of_getElem? (i := 79) (by decide +kernel))) rfl
theorem tw_626 : Cond.methodLink RX10 140 yX10_shiftViews ∈ TG := TG_in (seg_3 (List.mem_of_getElem? (i := 80) (by decide +kernel))) rfl
theorem tw_628 : Cond.instanceMethod yX10_shiftViews ∈ TG := TG_in (seg_3 (List.mem_of_getElem? (i := 82) (by decide +kernel))) rfl
theorem tw_629 : Cond.code yX10_shiftViews cX10_shiftViews 4 none ∈ TG := TG_in (seg_3 (List.mem_of_getElem? (i := 83) (by decide +kernel))) rfl
theorem tw_630 : Cond.methodLink RX10 147 yX3_shifts ∈ TG := TG_in (seg_3 (List.mem_of_getElem? (i := 84) (by decide +kernel))) rfl
theorem tw_631 : Cond.methodLink RX10 119 yX10_draw ∈ TG := TG_in (seg_3 (List.mem_of_getElem? (i := 85) (by decide +kernel))) rfl
theorem tw_632 : Cond.methodLink RX10 110 yX10_setOff ∈ TG := TG_in (seg_3 (List.mem_of_getElem? (i := 86) (by decide +kernel))) rfl
theorem tw_634 : Cond.instanceMethod yX10_setOff ∈ TG := TG_in (seg_3 (List.mem_of_getElem? (i := 88) (by decide +kernel))) rfl
theorem tw_635 : Cond.code yX10_setOff cX10_setOff 3 none ∈ TG := TG_in (seg_3 (List.mem_of_getElem? (i := 89) (by decide +kernel))) rfl
theorem tw_636 : Cond.methodLink RX10 116 yX10_nextAshore ∈ TG := TG_in (seg_3 (List.mem_of_getElem? (i := 90) (by decide +kernel))) rfl
theorem tw_638 : Cond.instanceMethod yX10_nextAshore ∈ TG := TG_in (seg_3 (List.mem_of_getElem? (i := 92) (by decide +kernel))) rfl
theorem tw_639 : Cond.code yX10_nextAshore cX10_nextAshore 3 (some .int) ∈ TG := TG_in (seg_3 (List.mem_of_getElem? (i := 93) (by decide +kernel))) rfl
theorem tw_640 : Cond.methodLink RX10 122 yX10_goAboard ∈ TG := TG_in (seg_3 (List.mem_of_getElem? (i := 94) (by decide +kernel))) rfl
theorem tw_641 : Cond.instanceMethod yX10_goAboard ∈ TG := TG_in (seg_3 (List.mem_of_getElem? (i := 95) (by decide +kernel))) rfl
theorem tw_642 : Cond.selects RX10 yX10_goAboard yX10_goAboard ∈ TG := TG_in (seg_3 (List.mem_of_getElem? (i := 96) (by decide +kernel))) rfl
theorem tw_643 : Cond.code yX10_goAboard cX10_goAboard 4 none ∈ TG := TG_in (seg_3 (List.mem_of_getElem? (i := 97) (by decide +kernel))) rfl
theorem tw_644 : Cond.methodLink RL 69 yX11_ferry ∈ TG := TG_in (seg_3 (List.mem_of_getElem? (i := 98) (by decide +kernel))) rfl
theorem tw_645 : Cond.instanceMethod yX11_ferry ∈ TG := TG_in (seg_3 (List.mem_of_getElem? (i := 99) (by decide +kernel))) rfl
theorem tw_646 : Cond.selects RX11 yX11_ferry yX11_ferry ∈ TG := TG_in (seg_3 (List.mem_of_getElem? (i := 100) (by decide +kernel))) rfl
theorem tw_647 : Cond.code yX11_ferry cX11_ferry 2 (some .int) ∈ TG := TG_in (seg_3 (List.mem_of_getElem? (i := 101) (by decide +kernel))) rfl
theorem tw_648 : Cond.methodLink RX11 214 yX10_heatOfAll ∈ TG := TG_in (seg_3 (List.mem_of_getElem? (i := 102) (by decide +kernel))) rfl
theorem tw_649 : Cond.instanceMethod yX10_heatOfAll ∈ TG := TG_in (seg_3 (List.mem_of_getElem? (i := 103) (by decide +kernel))) rfl
theorem tw_650 : Cond.selects RX10 yX10_heatOfAll yX10_heatOfAll ∈ TG := TG_in (seg_3 (List.mem_of_getElem? (i := 104) (by decide +kernel))) rfl
theorem tw_651 : Cond.code yX10_heatOfAll cX10_heatOfAll 3 (some .int) ∈ TG := TG_in (seg_3 (List.mem_of_getElem? (i := 105) (by decide +kernel))) rfl
theorem tw_652 : Cond.methodLink RX11 217 yX10_standing ∈ TG := TG_in (seg_3 (List.mem_of_getElem? (i := 106) (by decide +kernel))) rfl
theorem tw_653 : Cond.instanceMethod yX10_standing ∈ TG := TG_in (seg_3 (List.mem_of_getElem? (i := 107) (by decide +kernel))) rfl
theorem tw_654 : Cond.selects RX10 yX10_standing yX10_standing ∈ TG := TG_in (seg_3 (List.mem_of_getElem? (i := 108) (by decide +kernel))) rfl
theorem tw_655 : Cond.code yX10_standing cX10_standing 2 (some .int) ∈ TG := TG_in (seg_3 (List.mem_of_getElem? (i := 109) (by decide +kernel))) rfl
theorem tn_656 : Cond.methodLinkNest RX10 75 yX11_within "ArguedFerry" ∈ lw_tbl := seg_3 (List.mem_of_getElem? (i := 110) (by decide +kernel))
theorem tw_657 : Cond.methodLink RX10 79 yX10_thoseOver ∈ TG := TG_in (seg_3 (List.mem_of_getElem? (i := 111) (by decide +kernel))) rfl
theorem tw_659 : Cond.instanceMethod yX10_thoseOver ∈ TG := TG_in (seg_3 (List.mem_of_getElem? (i := 113) (by decide +kernel))) rfl
theorem tw_660 : Cond.code yX10_thoseOver cX10_thoseOver 3 (some .int) ∈ TG := TG_in (seg_3 (List.mem_of_getElem? (i := 114) (by decide +kernel))) rfl
theorem tw_661 : Cond.methodLink RL 73 yX11_over ∈ TG := TG_in (seg_3 (List.mem_of_getElem? (i := 115) (by decide +kernel))) rfl
theorem tw_662 : Cond.instanceMethod yX11_over ∈ TG := TG_in (seg_3 (List.mem_of_getElem? (i := 116) (by decide +kernel))) rfl
theorem tw_663 : Cond.selects RX11 yX11_over yX11_over ∈ TG := TG_in (seg_3 (List.mem_of_getElem? (i := 117) (by decide +kernel))) rfl
theorem tw_664 : Cond.code yX11_over cX11_over 4 (some .int) ∈ TG := TG_in (seg_3 (List.mem_of_getElem? (i := 118) (by decide +kernel))) rfl
theorem tw_665 : Cond.methodLink RX11 220 yX11_minutesOver ∈ TG := TG_in (seg_3 (List.mem_of_getElem? (i := 119) (by decide +kernel))) rfl
theorem tw_667 : Cond.instanceMethod yX11_minutesOver ∈ TG := TG_in (seg_3 (List.mem_of_getElem? (i := 121) (by decide +kernel))) rfl
theorem tw_668 : Cond.code yX11_minutesOver cX11_minutesOver 6 (some .int) ∈ TG := TG_in (seg_3 (List.mem_of_getElem? (i := 122) (by decide +kernel))) rfl
theorem tw_669 : Cond.methodLink RX11 230 yX10_becomeAs ∈ TG := TG_in (seg_3 (List.mem_of_getElem? (i := 123) (by decide +kernel))) rfl
theorem tw_670 : Cond.instanceMethod yX10_becomeAs ∈ TG := TG_in (seg_3 (List.mem_of_getElem? (i := 124) (by decide +kernel))) rfl
theorem tw_671 : Cond.selects RX10 yX10_becomeAs yX10_becomeAs ∈ TG := TG_in (seg_3 (List.mem_of_getElem? (i := 125) (by decide +kernel))) rfl
theorem tw_672 : Cond.code yX10_becomeAs cX10_becomeAs 3 none ∈ TG := TG_in (seg_3 (List.mem_of_getElem? (i := 126) (by decide +kernel))) rfl
theorem tw_673 : Cond.methodLink RX10 43 yX4_becomeAs ∈ TG := TG_in (seg_3 (List.mem_of_getElem? (i := 127) (by decide +kernel))) rfl
theorem tw_674 : Cond.instanceMethod yX4_becomeAs ∈ TG := TG_in (seg_3 (List.mem_of_getElem? (i := 128) (by decide +kernel))) rfl
theorem tw_675 : Cond.selects RX4 yX4_becomeAs yX4_becomeAs ∈ TG := TG_in (seg_3 (List.mem_of_getElem? (i := 129) (by decide +kernel))) rfl
theorem tw_676 : Cond.code yX4_becomeAs cX4_becomeAs 2 none ∈ TG := TG_in (seg_3 (List.mem_of_getElem? (i := 130) (by decide +kernel))) rfl
theorem tw_677 : Cond.methodLink RX4 32 ⟨"java/lang/System", "arraycopy", "(Ljava/lang/Object;ILjava/lang/Object;II)V"⟩ ∈ TG := TG_in (seg_3 (List.mem_of_getElem? (i := 131) (by decide +kernel))) rfl
theorem tw_678 : Cond.static ⟨"java/lang/System", "arraycopy", "(Ljava/lang/Object;ILjava/lang/Object;II)V"⟩ ∈ TG := TG_in (seg_3 (List.mem_of_getElem? (i := 132) (by decide +kernel))) rfl
theorem tw_679 : Cond.native ⟨"java/lang/System", "arraycopy", "(Ljava/lang/Object;ILjava/lang/Object;II)V"⟩ ∈ TG := TG_in (seg_3 (List.mem_of_getElem? (i := 133) (by decide +kernel))) rfl
theorem tw_680 : Cond.methodLink RX10 62 ⟨"java/lang/System", "arraycopy", "(Ljava/lang/Object;ILjava/lang/Object;II)V"⟩ ∈ TG := TG_in (seg_3 (List.mem_of_getElem? (i := 134) (by decide +kernel))) rfl
theorem tw_681 : Cond.methodLink RX11 336 yX10_goAboard ∈ TG := TG_in (seg_3 (List.mem_of_getElem? (i := 135) (by decide +kernel))) rfl
theorem tw_682 : Cond.methodLink RL 77 yX11_settles ∈ TG := TG_in (seg_3 (List.mem_of_getElem? (i := 136) (by decide +kernel))) rfl
theorem tw_683 : Cond.instanceMethod yX11_settles ∈ TG := TG_in (seg_3 (List.mem_of_getElem? (i := 137) (by decide +kernel))) rfl
theorem tw_684 : Cond.selects RX11 yX11_settles yX11_settles ∈ TG := TG_in (seg_3 (List.mem_of_getElem? (i := 138) (by decide +kernel))) rfl
theorem tw_685 : Cond.code yX11_settles cX11_settles 8 (some .int) ∈ TG := TG_in (seg_3 (List.mem_of_getElem? (i := 139) (by decide +kernel))) rfl
theorem tw_686 : Cond.methodLink RL 81 yX11_pairs ∈ TG := TG_in (seg_3 (List.mem_of_getElem? (i := 140) (by decide +kernel))) rfl
theorem tw_687 : Cond.instanceMethod yX11_pairs ∈ TG := TG_in (seg_3 (List.mem_of_getElem? (i := 141) (by decide +kernel))) rfl
theorem tw_688 : Cond.selects RX11 yX11_pairs yX11_pairs ∈ TG := TG_in (seg_3 (List.mem_of_getElem? (i := 142) (by decide +kernel))) rfl
theorem tw_689 : Cond.code yX11_pairs cX11_pairs 2 (some .int) ∈ TG := TG_in (seg_3 (List.mem_of_getElem? (i := 143) (by decide +kernel))) rfl
theorem tw_690 : Cond.methodLink RX11 224 yX11_findPartners ∈ TG := TG_in (seg_3 (List.mem_of_getElem? (i := 144) (by decide +kernel))) rfl
theorem tw_692 : Cond.instanceMethod yX11_findPartners ∈ TG := TG_in (seg_3 (List.mem_of_getElem? (i := 146) (by decide +kernel))) rfl
theorem tw_693 : Cond.code yX11_findPartners cX11_findPartners 7 none ∈ TG := TG_in (seg_3 (List.mem_of_getElem? (i := 147) (by decide +kernel))) rfl
theorem tw_694 : Cond.methodLink RX11 340 yJ7_fill_53178 ∈ TG := TG_in (seg_3 (List.mem_of_getElem? (i := 148) (by decide +kernel))) rfl
theorem tw_695 : Cond.methodLink RX11 227 yX11_pairsOf ∈ TG := TG_in (seg_3 (List.mem_of_getElem? (i := 149) (by decide +kernel))) rfl
theorem tw_697 : Cond.instanceMethod yX11_pairsOf ∈ TG := TG_in (seg_3 (List.mem_of_getElem? (i := 151) (by decide +kernel))) rfl
theorem tw_698 : Cond.code yX11_pairsOf cX11_pairsOf 8 (some .int) ∈ TG := TG_in (seg_3 (List.mem_of_getElem? (i := 152) (by decide +kernel))) rfl
theorem tw_699 : Cond.methodLink RX11 346 yJ6_numberOfTrailingZeros_0f7a4 ∈ TG := TG_in (seg_3 (List.mem_of_getElem? (i := 153) (by decide +kernel))) rfl
theorem tw_700 : Cond.static yJ6_numberOfTrailingZeros_0f7a4 ∈ TG := TG_in (seg_3 (List.mem_of_getElem? (i := 154) (by decide +kernel))) rfl
theorem tw_701 : Cond.code yJ6_numberOfTrailingZeros_0f7a4 cJ6_numberOfTrailingZeros_0f7a4 2 (some .int) ∈ TG := TG_in (seg_3 (List.mem_of_getElem? (i := 155) (by decide +kernel))) rfl
theorem tw_702 : Cond.constant RJ6 264 (65536) ∈ TG := TG_in (seg_3 (List.mem_of_getElem? (i := 156) (by decide +kernel))) rfl
theorem tw_703 : Cond.methodLink RL 85 yX11_behind ∈ TG := TG_in (seg_3 (List.mem_of_getElem? (i := 157) (by decide +kernel))) rfl
theorem tw_704 : Cond.instanceMethod yX11_behind ∈ TG := TG_in (seg_3 (List.mem_of_getElem? (i := 158) (by decide +kernel))) rfl
theorem tw_705 : Cond.selects RX11 yX11_behind yX11_behind ∈ TG := TG_in (seg_3 (List.mem_of_getElem? (i := 159) (by decide +kernel))) rfl
theorem tw_706 : Cond.code yX11_behind cX11_behind 3 (some .int) ∈ TG := TG_in (seg_3 (List.mem_of_getElem? (i := 160) (by decide +kernel))) rfl
theorem tw_707 : Cond.methodLink RX11 234 yX10_passMinutes ∈ TG := TG_in (seg_3 (List.mem_of_getElem? (i := 161) (by decide +kernel))) rfl
theorem tw_708 : Cond.instanceMethod yX10_passMinutes ∈ TG := TG_in (seg_3 (List.mem_of_getElem? (i := 162) (by decide +kernel))) rfl
theorem tw_709 : Cond.selects RX10 yX10_passMinutes yX10_passMinutes ∈ TG := TG_in (seg_3 (List.mem_of_getElem? (i := 163) (by decide +kernel))) rfl
theorem tw_710 : Cond.code yX10_passMinutes cX10_passMinutes 3 none ∈ TG := TG_in (seg_3 (List.mem_of_getElem? (i := 164) (by decide +kernel))) rfl
theorem tw_711 : Cond.methodLink RX10 104 yX10_passMinute ∈ TG := TG_in (seg_3 (List.mem_of_getElem? (i := 165) (by decide +kernel))) rfl
theorem tw_712 : Cond.methodLink RL 89 yX11_lands ∈ TG := TG_in (seg_3 (List.mem_of_getElem? (i := 166) (by decide +kernel))) rfl
theorem tw_713 : Cond.instanceMethod yX11_lands ∈ TG := TG_in (seg_3 (List.mem_of_getElem? (i := 167) (by decide +kernel))) rfl
theorem tw_714 : Cond.selects RX11 yX11_lands yX11_lands ∈ TG := TG_in (seg_3 (List.mem_of_getElem? (i := 168) (by decide +kernel))) rfl
theorem tw_715 : Cond.code yX11_lands cX11_lands 4 (some .int) ∈ TG := TG_in (seg_3 (List.mem_of_getElem? (i := 169) (by decide +kernel))) rfl
theorem tw_716 : Cond.methodLink RL 93 yX11_calm ∈ TG := TG_in (seg_3 (List.mem_of_getElem? (i := 170) (by decide +kernel))) rfl
theorem tw_717 : Cond.instanceMethod yX11_calm ∈ TG := TG_in (seg_3 (List.mem_of_getElem? (i := 171) (by decide +kernel))) rfl
theorem tw_718 : Cond.selects RX11 yX11_calm yX11_calm ∈ TG := TG_in (seg_3 (List.mem_of_getElem? (i := 172) (by decide +kernel))) rfl
theorem tw_719 : Cond.code yX11_calm cX11_calm 6 (some .int) ∈ TG := TG_in (seg_3 (List.mem_of_getElem? (i := 173) (by decide +kernel))) rfl
theorem tw_720 : Cond.methodLink RL 97 yX11_becomes ∈ TG := TG_in (seg_3 (List.mem_of_getElem? (i := 174) (by decide +kernel))) rfl
theorem tw_721 : Cond.instanceMethod yX11_becomes ∈ TG := TG_in (seg_3 (List.mem_of_getElem? (i := 175) (by decide +kernel))) rfl
theorem tw_722 : Cond.selects RX11 yX11_becomes yX11_becomes ∈ TG := TG_in (seg_3 (List.mem_of_getElem? (i := 176) (by decide +kernel))) rfl
theorem tw_723 : Cond.code yX11_becomes cX11_becomes 7 (some .int) ∈ TG := TG_in (seg_3 (List.mem_of_getElem? (i := 177) (by decide +kernel))) rfl
theorem tw_724 : Cond.methodLink RL 101 yX11_like ∈ TG := TG_in (seg_3 (List.mem_of_getElem? (i := 178) (by decide +kernel))) rfl
theorem tw_725 : Cond.instanceMethod yX11_like ∈ TG := TG_in (seg_3 (List.mem_of_getElem? (i := 179) (by decide +kernel))) rfl
theorem tw_726 : Cond.selects RX11 yX11_like yX11_like ∈ TG := TG_in (seg_3 (List.mem_of_getElem? (i := 180) (by decide +kernel))) rfl
theorem tw_727 : Cond.code yX11_like cX11_like 5 (some .int) ∈ TG := TG_in (seg_3 (List.mem_of_getElem? (i := 181) (by decide +kernel))) rfl
theorem tw_728 : Cond.methodLink RX11 237 yX11_isSheet ∈ TG := TG_in (seg_3 (List.mem_of_getElem? (i := 182) (by decide +kernel))) rfl
theorem tw_729 : Cond.static yX11_isSheet ∈ TG := TG_in (seg_3 (List.mem_of_getElem? (i := 183) (by decide +kernel))) rfl
theorem tw_730 : Cond.code yX11_isSheet cX11_isSheet 1 (some .boolean) ∈ TG := TG_in (seg_3 (List.mem_of_getElem? (i := 184) (by decide +kernel))) rfl
theorem tw_731 : Cond.methodLink RX11 240 yX5_isMissing ∈ TG := TG_in (seg_3 (List.mem_of_getElem? (i := 185) (by decide +kernel))) rfl
theorem tw_732 : Cond.instanceMethod yX5_isMissing ∈ TG := TG_in (seg_3 (List.mem_of_getElem? (i := 186) (by decide +kernel))) rfl
theorem tw_733 : Cond.selects RX5 yX5_isMissing yX5_isMissing ∈ TG := TG_in (seg_3 (List.mem_of_getElem? (i := 187) (by decide +kernel))) rfl
theorem tw_734 : Cond.code yX5_isMissing cX5_isMissing 1 (some .boolean) ∈ TG := TG_in (seg_3 (List.mem_of_getElem? (i := 188) (by decide +kernel))) rfl
theorem tw_735 : Cond.constant RX11 244 (-1000000011) ∈ TG := TG_in (seg_3 (List.mem_of_getElem? (i := 189) (by decide +kernel))) rfl
theorem tw_736 : Cond.methodLink RX11 245 yX11_sumDifferences ∈ TG := TG_in (seg_3 (List.mem_of_getElem? (i := 190) (by decide +kernel))) rfl
theorem tw_738 : Cond.instanceMethod yX11_sumDifferences ∈ TG := TG_in (seg_3 (List.mem_of_getElem? (i := 192) (by decide +kernel))) rfl
theorem tw_739 : Cond.code yX11_sumDifferences cX11_sumDifferences 4 none ∈ TG := TG_in (seg_3 (List.mem_of_getElem? (i := 193) (by decide +kernel))) rfl
theorem tw_740 : Cond.methodLink RX11 300 yX5_isNumber ∈ TG := TG_in (seg_3 (List.mem_of_getElem? (i := 194) (by decide +kernel))) rfl
theorem tw_741 : Cond.instanceMethod yX5_isNumber ∈ TG := TG_in (seg_3 (List.mem_of_getElem? (i := 195) (by decide +kernel))) rfl
theorem tw_742 : Cond.selects RX5 yX5_isNumber yX5_isNumber ∈ TG := TG_in (seg_3 (List.mem_of_getElem? (i := 196) (by decide +kernel))) rfl
theorem tw_743 : Cond.code yX5_isNumber cX5_isNumber 2 (some .boolean) ∈ TG := TG_in (seg_3 (List.mem_of_getElem? (i := 197) (by decide +kernel))) rfl
theorem tw_744 : Cond.constant RX5 34 (-1000000005) ∈ TG := TG_in (seg_3 (List.mem_of_getElem? (i := 198) (by decide +kernel))) rfl
theorem tw_745 : Cond.methodLink RX11 351 yJ9_abs_0f7a4 ∈ TG := TG_in (seg_3 (List.mem_of_getElem? (i := 199) (by decide +kernel))) rfl
theorem tw_746 : Cond.methodLink RL 105 yX11_fee ∈ TG := TG_in (seg_3 (List.mem_of_getElem? (i := 200) (by decide +kernel))) rfl
theorem tw_747 : Cond.instanceMethod yX11_fee ∈ TG := TG_in (seg_3 (List.mem_of_getElem? (i := 201) (by decide +kernel))) rfl
theorem tw_748 : Cond.selects RX11 yX11_fee yX11_fee ∈ TG := TG_in (seg_3 (List.mem_of_getElem? (i := 202) (by decide +kernel))) rfl
theorem tw_749 : Cond.code yX11_fee cX11_fee 3 (some .int) ∈ TG := TG_in (seg_3 (List.mem_of_getElem? (i := 203) (by decide +kernel))) rfl
theorem tw_750 : Cond.methodLink RX11 252 yX8_valueOf ∈ TG := TG_in (seg_3 (List.mem_of_getElem? (i := 204) (by decide +kernel))) rfl
theorem tw_751 : Cond.methodLink RL 110 yX11_fine ∈ TG := TG_in (seg_3 (List.mem_of_getElem? (i := 205) (by decide +kernel))) rfl
theorem tw_752 : Cond.instanceMethod yX11_fine ∈ TG := TG_in (seg_3 (List.mem_of_getElem? (i := 206) (by decide +kernel))) rfl
theorem tw_753 : Cond.selects RX11 yX11_fine yX11_fine ∈ TG := TG_in (seg_3 (List.mem_of_getElem? (i := 207) (by decide +kernel))) rfl
theorem tw_754 : Cond.code yX11_fine cX11_fine 4 (some .int) ∈ TG := TG_in (seg_3 (List.mem_of_getElem? (i := 208) (by decide +kernel))) rfl
theorem tw_755 : Cond.methodLink RL 114 yX11_feed ∈ TG := TG_in (seg_3 (List.mem_of_getElem? (i := 209) (by decide +kernel))) rfl
theorem tw_756 : Cond.instanceMethod yX11_feed ∈ TG := TG_in (seg_3 (List.mem_of_getElem? (i := 210) (by decide +kernel))) rfl
theorem tw_757 : Cond.selects RX11 yX11_feed yX11_feed ∈ TG := TG_in (seg_3 (List.mem_of_getElem? (i := 211) (by decide +kernel))) rfl
theorem tw_758 : Cond.code yX11_feed cX11_feed 4 (some .int) ∈ TG := TG_in (seg_3 (List.mem_of_getElem? (i := 212) (by decide +kernel))) rfl
theorem tw_759 : Cond.methodLink RX11 258 yX7_append ∈ TG := TG_in (seg_3 (List.mem_of_getElem? (i := 213) (by decide +kernel))) rfl
theorem tw_760 : Cond.instanceMethod yX7_append ∈ TG := TG_in (seg_3 (List.mem_of_getElem? (i := 214) (by decide +kernel))) rfl
theorem tw_761 : Cond.selects RX7 yX7_append yX7_append ∈ TG := TG_in (seg_3 (List.mem_of_getElem? (i := 215) (by decide +kernel))) rfl
theorem tw_762 : Cond.code yX7_append cX7_append 3 none ∈ TG := TG_in (seg_3 (List.mem_of_getElem? (i := 216) (by decide +kernel))) rfl
theorem tw_763 : Cond.methodLink RL 118 yX11_trim ∈ TG := TG_in (seg_3 (List.mem_of_getElem? (i := 217) (by decide +kernel))) rfl
theorem tw_764 : Cond.instanceMethod yX11_trim ∈ TG := TG_in (seg_3 (List.mem_of_getElem? (i := 218) (by decide +kernel))) rfl
theorem tw_765 : Cond.selects RX11 yX11_trim yX11_trim ∈ TG := TG_in (seg_3 (List.mem_of_getElem? (i := 219) (by decide +kernel))) rfl
theorem tw_766 : Cond.code yX11_trim cX11_trim 2 (some .int) ∈ TG := TG_in (seg_3 (List.mem_of_getElem? (i := 220) (by decide +kernel))) rfl
theorem tw_767 : Cond.methodLink RL 122 yX11_text ∈ TG := TG_in (seg_3 (List.mem_of_getElem? (i := 221) (by decide +kernel))) rfl
theorem tw_768 : Cond.instanceMethod yX11_text ∈ TG := TG_in (seg_3 (List.mem_of_getElem? (i := 222) (by decide +kernel))) rfl
theorem tw_769 : Cond.selects RX11 yX11_text yX11_text ∈ TG := TG_in (seg_3 (List.mem_of_getElem? (i := 223) (by decide +kernel))) rfl
theorem tw_770 : Cond.code yX11_text cX11_text 3 (some .int) ∈ TG := TG_in (seg_3 (List.mem_of_getElem? (i := 224) (by decide +kernel))) rfl
theorem tw_771 : Cond.methodLink RX11 264 yX7_takeText ∈ TG := TG_in (seg_3 (List.mem_of_getElem? (i := 225) (by decide +kernel))) rfl
theorem tw_772 : Cond.instanceMethod yX7_takeText ∈ TG := TG_in (seg_3 (List.mem_of_getElem? (i := 226) (by decide +kernel))) rfl
theorem tw_773 : Cond.selects RX7 yX7_takeText yX7_takeText ∈ TG := TG_in (seg_3 (List.mem_of_getElem? (i := 227) (by decide +kernel))) rfl
theorem tw_774 : Cond.code yX7_takeText cX7_takeText 3 (some .boolean) ∈ TG := TG_in (seg_3 (List.mem_of_getElem? (i := 228) (by decide +kernel))) rfl
theorem tw_775 : Cond.methodLink RX7 29 yX7_goOn ∈ TG := TG_in (seg_3 (List.mem_of_getElem? (i := 229) (by decide +kernel))) rfl
theorem tw_777 : Cond.instanceMethod yX7_goOn ∈ TG := TG_in (seg_3 (List.mem_of_getElem? (i := 231) (by decide +kernel))) rfl
theorem tw_778 : Cond.code yX7_goOn cX7_goOn 3 none ∈ TG := TG_in (seg_3 (List.mem_of_getElem? (i := 232) (by decide +kernel))) rfl
theorem tw_779 : Cond.methodLink RX7 46 yX7_isWord ∈ TG := TG_in (seg_3 (List.mem_of_getElem? (i := 233) (by decide +kernel))) rfl
theorem tw_780 : Cond.static yX7_isWord ∈ TG := TG_in (seg_3 (List.mem_of_getElem? (i := 234) (by decide +kernel))) rfl
theorem tw_781 : Cond.code yX7_isWord cX7_isWord 1 (some .boolean) ∈ TG := TG_in (seg_3 (List.mem_of_getElem? (i := 235) (by decide +kernel))) rfl
theorem tw_782 : Cond.methodLink RX7 53 yX7_sortOf ∈ TG := TG_in (seg_3 (List.mem_of_getElem? (i := 236) (by decide +kernel))) rfl
theorem tw_783 : Cond.static yX7_sortOf ∈ TG := TG_in (seg_3 (List.mem_of_getElem? (i := 237) (by decide +kernel))) rfl
theorem tw_784 : Cond.code yX7_sortOf cX7_sortOf 1 (some .int) ∈ TG := TG_in (seg_3 (List.mem_of_getElem? (i := 238) (by decide +kernel))) rfl
theorem tw_785 : Cond.methodLink RX7 32 yX7_keyHere ∈ TG := TG_in (seg_3 (List.mem_of_getElem? (i := 239) (by decide +kernel))) rfl
theorem tw_787 : Cond.instanceMethod yX7_keyHere ∈ TG := TG_in (seg_4 (List.mem_of_getElem? (i := 1) (by decide +kernel))) rfl
theorem tw_788 : Cond.code yX7_keyHere cX7_keyHere 2 (some .int) ∈ TG := TG_in (seg_4 (List.mem_of_getElem? (i := 2) (by decide +kernel))) rfl
theorem tw_792 : Cond.methodLink RX7 63 yX7_isWordHere ∈ TG := TG_in (seg_4 (List.mem_of_getElem? (i := 6) (by decide +kernel))) rfl
theorem tw_794 : Cond.instanceMethod yX7_isWordHere ∈ TG := TG_in (seg_4 (List.mem_of_getElem? (i := 8) (by decide +kernel))) rfl
theorem tw_795 : Cond.code yX7_isWordHere cX7_isWordHere 3 (some .boolean) ∈ TG := TG_in (seg_4 (List.mem_of_getElem? (i := 9) (by decide +kernel))) rfl
theorem tw_796 : Cond.methodLink RX7 67 yJ0_length_8abf5 ∈ TG := TG_in (seg_4 (List.mem_of_getElem? (i := 10) (by decide +kernel))) rfl
theorem tw_799 : Cond.code yJ0_length_8abf5 cJ0_length_8abf5 1 (some .int) ∈ TG := TG_in (seg_4 (List.mem_of_getElem? (i := 13) (by decide +kernel))) rfl
theorem tw_800 : Cond.methodLink RJ0 335 yJ0_coder_7d493 ∈ TG := TG_in (seg_4 (List.mem_of_getElem? (i := 14) (by decide +kernel))) rfl
theorem tw_803 : Cond.code yJ0_coder_7d493 cJ0_coder_7d493 1 (some .byte) ∈ TG := TG_in (seg_4 (List.mem_of_getElem? (i := 17) (by decide +kernel))) rfl
theorem tw_806 : Cond.methodLink RX7 71 yJ0_charAt_5068e ∈ TG := TG_in (seg_4 (List.mem_of_getElem? (i := 20) (by decide +kernel))) rfl
theorem tw_809 : Cond.code yJ0_charAt_5068e cJ0_charAt_5068e 2 (some .char) ∈ TG := TG_in (seg_4 (List.mem_of_getElem? (i := 23) (by decide +kernel))) rfl
theorem tw_810 : Cond.methodLink RJ0 492 yJ0_isLatin1_aae02 ∈ TG := TG_in (seg_4 (List.mem_of_getElem? (i := 24) (by decide +kernel))) rfl
theorem tw_813 : Cond.code yJ0_isLatin1_aae02 cJ0_isLatin1_aae02 1 (some .boolean) ∈ TG := TG_in (seg_4 (List.mem_of_getElem? (i := 27) (by decide +kernel))) rfl
theorem tw_814 : Cond.methodLink RJ0 495 yJ1_charAt_3b067 ∈ TG := TG_in (seg_4 (List.mem_of_getElem? (i := 28) (by decide +kernel))) rfl
theorem tw_815 : Cond.static yJ1_charAt_3b067 ∈ TG := TG_in (seg_4 (List.mem_of_getElem? (i := 29) (by decide +kernel))) rfl
theorem tw_816 : Cond.code yJ1_charAt_3b067 cJ1_charAt_3b067 2 (some .char) ∈ TG := TG_in (seg_4 (List.mem_of_getElem? (i := 30) (by decide +kernel))) rfl
theorem tw_817 : Cond.methodLink RJ1 9 yJ0_checkIndex_df160 ∈ TG := TG_in (seg_4 (List.mem_of_getElem? (i := 31) (by decide +kernel))) rfl
theorem tw_818 : Cond.static yJ0_checkIndex_df160 ∈ TG := TG_in (seg_4 (List.mem_of_getElem? (i := 32) (by decide +kernel))) rfl
theorem tw_819 : Cond.code yJ0_checkIndex_df160 cJ0_checkIndex_df160 2 none ∈ TG := TG_in (seg_4 (List.mem_of_getElem? (i := 33) (by decide +kernel))) rfl
theorem tw_822 : Cond.methodLink RJ0 1059 yJ3_checkIndex_8e157 ∈ TG := TG_in (seg_4 (List.mem_of_getElem? (i := 36) (by decide +kernel))) rfl
theorem tw_823 : Cond.static yJ3_checkIndex_8e157 ∈ TG := TG_in (seg_4 (List.mem_of_getElem? (i := 37) (by decide +kernel))) rfl
theorem tw_824 : Cond.code yJ3_checkIndex_8e157 cJ3_checkIndex_8e157 3 (some .int) ∈ TG := TG_in (seg_4 (List.mem_of_getElem? (i := 38) (by decide +kernel))) rfl
theorem tw_825 : Cond.methodLink RJ0 498 yJ2_charAt_3b067 ∈ TG := TG_in (seg_4 (List.mem_of_getElem? (i := 39) (by decide +kernel))) rfl
theorem tw_826 : Cond.static yJ2_charAt_3b067 ∈ TG := TG_in (seg_4 (List.mem_of_getElem? (i := 40) (by decide +kernel))) rfl
theorem tw_827 : Cond.code yJ2_charAt_3b067 cJ2_charAt_3b067 2 (some .char) ∈ TG := TG_in (seg_4 (List.mem_of_getElem? (i := 41) (by decide +kernel))) rfl
theorem tw_828 : Cond.methodLink RJ2 67 yJ2_checkIndex_2214a ∈ TG := TG_in (seg_4 (List.mem_of_getElem? (i := 42) (by decide +kernel))) rfl
theorem tw_829 : Cond.static yJ2_checkIndex_2214a ∈ TG := TG_in (seg_4 (List.mem_of_getElem? (i := 43) (by decide +kernel))) rfl
theorem tw_830 : Cond.code yJ2_checkIndex_2214a cJ2_checkIndex_2214a 2 none ∈ TG := TG_in (seg_4 (List.mem_of_getElem? (i := 44) (by decide +kernel))) rfl
theorem tw_831 : Cond.methodLink RJ2 48 yJ2_length_9d52b ∈ TG := TG_in (seg_4 (List.mem_of_getElem? (i := 45) (by decide +kernel))) rfl
theorem tw_832 : Cond.static yJ2_length_9d52b ∈ TG := TG_in (seg_4 (List.mem_of_getElem? (i := 46) (by decide +kernel))) rfl
theorem tw_833 : Cond.code yJ2_length_9d52b cJ2_length_9d52b 1 (some .int) ∈ TG := TG_in (seg_4 (List.mem_of_getElem? (i := 47) (by decide +kernel))) rfl
theorem tw_834 : Cond.methodLink RJ2 414 yJ0_checkIndex_df160 ∈ TG := TG_in (seg_4 (List.mem_of_getElem? (i := 48) (by decide +kernel))) rfl
theorem tw_835 : Cond.methodLink RJ2 71 yJ2_getChar_3b067 ∈ TG := TG_in (seg_4 (List.mem_of_getElem? (i := 49) (by decide +kernel))) rfl
theorem tw_836 : Cond.static yJ2_getChar_3b067 ∈ TG := TG_in (seg_4 (List.mem_of_getElem? (i := 50) (by decide +kernel))) rfl
theorem tw_837 : Cond.code yJ2_getChar_3b067 cJ2_getChar_3b067 2 (some .char) ∈ TG := TG_in (seg_4 (List.mem_of_getElem? (i := 51) (by decide +kernel))) rfl
theorem tw_844 : Cond.methodLink RX7 36 yX8_begin ∈ TG := TG_in (seg_4 (List.mem_of_getElem? (i := 58) (by decide +kernel))) rfl
theorem tw_845 : Cond.instanceMethod yX8_begin ∈ TG := TG_in (seg_4 (List.mem_of_getElem? (i := 59) (by decide +kernel))) rfl
theorem tw_846 : Cond.selects RX8 yX8_begin yX8_begin ∈ TG := TG_in (seg_4 (List.mem_of_getElem? (i := 60) (by decide +kernel))) rfl
theorem tw_847 : Cond.code yX8_begin cX8_begin 2 none ∈ TG := TG_in (seg_4 (List.mem_of_getElem? (i := 61) (by decide +kernel))) rfl
theorem tw_848 : Cond.methodLink RX7 42 yX7_takeOr ∈ TG := TG_in (seg_4 (List.mem_of_getElem? (i := 62) (by decide +kernel))) rfl
theorem tw_850 : Cond.instanceMethod yX7_takeOr ∈ TG := TG_in (seg_4 (List.mem_of_getElem? (i := 64) (by decide +kernel))) rfl
theorem tw_851 : Cond.code yX7_takeOr cX7_takeOr 5 (some .boolean) ∈ TG := TG_in (seg_4 (List.mem_of_getElem? (i := 65) (by decide +kernel))) rfl
theorem tw_852 : Cond.methodLink RX7 75 yX7_takeAnd ∈ TG := TG_in (seg_4 (List.mem_of_getElem? (i := 66) (by decide +kernel))) rfl
theorem tw_854 : Cond.instanceMethod yX7_takeAnd ∈ TG := TG_in (seg_4 (List.mem_of_getElem? (i := 68) (by decide +kernel))) rfl
theorem tw_855 : Cond.code yX7_takeAnd cX7_takeAnd 5 (some .boolean) ∈ TG := TG_in (seg_4 (List.mem_of_getElem? (i := 69) (by decide +kernel))) rfl
theorem tw_856 : Cond.methodLink RX7 81 yX7_takeTest ∈ TG := TG_in (seg_4 (List.mem_of_getElem? (i := 70) (by decide +kernel))) rfl
theorem tw_858 : Cond.instanceMethod yX7_takeTest ∈ TG := TG_in (seg_4 (List.mem_of_getElem? (i := 72) (by decide +kernel))) rfl
theorem tw_859 : Cond.code yX7_takeTest cX7_takeTest 5 (some .boolean) ∈ TG := TG_in (seg_4 (List.mem_of_getElem? (i := 73) (by decide +kernel))) rfl
theorem tw_860 : Cond.methodLink RX7 84 yX7_takeSum ∈ TG := TG_in (seg_4 (List.mem_of_getElem? (i := 74) (by decide +kernel))) rfl
theorem tw_862 : Cond.instanceMethod yX7_takeSum ∈ TG := TG_in (seg_4 (List.mem_of_getElem? (i := 76) (by decide +kernel))) rfl
theorem tw_863 : Cond.code yX7_takeSum cX7_takeSum 6 (some .boolean) ∈ TG := TG_in (seg_4 (List.mem_of_getElem? (i := 77) (by decide +kernel))) rfl
theorem tw_864 : Cond.methodLink RX7 87 yX7_takeTerm ∈ TG := TG_in (seg_4 (List.mem_of_getElem? (i := 78) (by decide +kernel))) rfl
theorem tw_866 : Cond.instanceMethod yX7_takeTerm ∈ TG := TG_in (seg_4 (List.mem_of_getElem? (i := 80) (by decide +kernel))) rfl
theorem tw_867 : Cond.code yX7_takeTerm cX7_takeTerm 6 (some .boolean) ∈ TG := TG_in (seg_4 (List.mem_of_getElem? (i := 81) (by decide +kernel))) rfl
theorem tw_868 : Cond.methodLink RX7 90 yX7_takePiece ∈ TG := TG_in (seg_4 (List.mem_of_getElem? (i := 82) (by decide +kernel))) rfl
theorem tw_870 : Cond.instanceMethod yX7_takePiece ∈ TG := TG_in (seg_4 (List.mem_of_getElem? (i := 84) (by decide +kernel))) rfl
theorem tw_871 : Cond.code yX7_takePiece cX7_takePiece 3 (some .boolean) ∈ TG := TG_in (seg_4 (List.mem_of_getElem? (i := 85) (by decide +kernel))) rfl
theorem tw_872 : Cond.methodLink RX7 93 yX7_takeNumber ∈ TG := TG_in (seg_4 (List.mem_of_getElem? (i := 86) (by decide +kernel))) rfl
theorem tw_874 : Cond.instanceMethod yX7_takeNumber ∈ TG := TG_in (seg_4 (List.mem_of_getElem? (i := 88) (by decide +kernel))) rfl
theorem tw_875 : Cond.code yX7_takeNumber cX7_takeNumber 3 (some .boolean) ∈ TG := TG_in (seg_4 (List.mem_of_getElem? (i := 89) (by decide +kernel))) rfl
theorem tw_876 : Cond.methodLink RX7 106 yX8_addNumber ∈ TG := TG_in (seg_4 (List.mem_of_getElem? (i := 90) (by decide +kernel))) rfl
theorem tw_877 : Cond.instanceMethod yX8_addNumber ∈ TG := TG_in (seg_4 (List.mem_of_getElem? (i := 91) (by decide +kernel))) rfl
theorem tw_878 : Cond.selects RX8 yX8_addNumber yX8_addNumber ∈ TG := TG_in (seg_4 (List.mem_of_getElem? (i := 92) (by decide +kernel))) rfl
theorem tw_879 : Cond.code yX8_addNumber cX8_addNumber 2 none ∈ TG := TG_in (seg_4 (List.mem_of_getElem? (i := 93) (by decide +kernel))) rfl
theorem tw_880 : Cond.methodLink RX8 31 yX8_addCode ∈ TG := TG_in (seg_4 (List.mem_of_getElem? (i := 94) (by decide +kernel))) rfl
theorem tw_882 : Cond.instanceMethod yX8_addCode ∈ TG := TG_in (seg_4 (List.mem_of_getElem? (i := 96) (by decide +kernel))) rfl
theorem tw_883 : Cond.code yX8_addCode cX8_addCode 2 none ∈ TG := TG_in (seg_4 (List.mem_of_getElem? (i := 97) (by decide +kernel))) rfl
theorem tw_884 : Cond.methodLink RX7 97 yX7_takeName ∈ TG := TG_in (seg_4 (List.mem_of_getElem? (i := 98) (by decide +kernel))) rfl
theorem tw_886 : Cond.instanceMethod yX7_takeName ∈ TG := TG_in (seg_4 (List.mem_of_getElem? (i := 100) (by decide +kernel))) rfl
theorem tw_887 : Cond.code yX7_takeName cX7_takeName 3 (some .boolean) ∈ TG := TG_in (seg_4 (List.mem_of_getElem? (i := 101) (by decide +kernel))) rfl
theorem tw_891 : Cond.methodLink RX7 118 yJ0_indexOf_0f7a4 ∈ TG := TG_in (seg_4 (List.mem_of_getElem? (i := 105) (by decide +kernel))) rfl
theorem tw_894 : Cond.code yJ0_indexOf_0f7a4 cJ0_indexOf_0f7a4 2 (some .int) ∈ TG := TG_in (seg_4 (List.mem_of_getElem? (i := 108) (by decide +kernel))) rfl
theorem tw_895 : Cond.methodLink RJ0 633 yJ0_indexOf_7cf53 ∈ TG := TG_in (seg_4 (List.mem_of_getElem? (i := 109) (by decide +kernel))) rfl
theorem tw_898 : Cond.code yJ0_indexOf_7cf53 cJ0_indexOf_7cf53 3 (some .int) ∈ TG := TG_in (seg_4 (List.mem_of_getElem? (i := 112) (by decide +kernel))) rfl
theorem tw_899 : Cond.methodLink RJ0 505 yJ0_length_8abf5 ∈ TG := TG_in (seg_4 (List.mem_of_getElem? (i := 113) (by decide +kernel))) rfl
theorem tw_900 : Cond.methodLink RJ0 637 yJ1_indexOf_4cfef ∈ TG := TG_in (seg_4 (List.mem_of_getElem? (i := 114) (by decide +kernel))) rfl
theorem tw_901 : Cond.static yJ1_indexOf_4cfef ∈ TG := TG_in (seg_4 (List.mem_of_getElem? (i := 115) (by decide +kernel))) rfl
theorem tw_902 : Cond.code yJ1_indexOf_4cfef cJ1_indexOf_4cfef 4 (some .int) ∈ TG := TG_in (seg_4 (List.mem_of_getElem? (i := 116) (by decide +kernel))) rfl
theorem tw_903 : Cond.methodLink RJ1 88 yJ1_canEncode_9a6ad ∈ TG := TG_in (seg_4 (List.mem_of_getElem? (i := 117) (by decide +kernel))) rfl
theorem tw_904 : Cond.static yJ1_canEncode_9a6ad ∈ TG := TG_in (seg_4 (List.mem_of_getElem? (i := 118) (by decide +kernel))) rfl
theorem tw_905 : Cond.code yJ1_canEncode_9a6ad cJ1_canEncode_9a6ad 1 (some .boolean) ∈ TG := TG_in (seg_4 (List.mem_of_getElem? (i := 119) (by decide +kernel))) rfl
theorem tw_906 : Cond.methodLink RJ1 92 yJ9_max_7cf53 ∈ TG := TG_in (seg_4 (List.mem_of_getElem? (i := 120) (by decide +kernel))) rfl
theorem tw_907 : Cond.methodLink RJ1 38 yJ9_min_7cf53 ∈ TG := TG_in (seg_4 (List.mem_of_getElem? (i := 121) (by decide +kernel))) rfl
theorem tw_908 : Cond.methodLink RJ1 95 yJ1_indexOfChar_4cfef ∈ TG := TG_in (seg_4 (List.mem_of_getElem? (i := 122) (by decide +kernel))) rfl
theorem tw_909 : Cond.static yJ1_indexOfChar_4cfef ∈ TG := TG_in (seg_4 (List.mem_of_getElem? (i := 123) (by decide +kernel))) rfl
theorem tw_910 : Cond.code yJ1_indexOfChar_4cfef cJ1_indexOfChar_4cfef 6 (some .int) ∈ TG := TG_in (seg_4 (List.mem_of_getElem? (i := 124) (by decide +kernel))) rfl
theorem tw_911 : Cond.methodLink RJ0 640 yJ2_indexOf_4cfef ∈ TG := TG_in (seg_4 (List.mem_of_getElem? (i := 125) (by decide +kernel))) rfl
theorem tw_912 : Cond.static yJ2_indexOf_4cfef ∈ TG := TG_in (seg_4 (List.mem_of_getElem? (i := 126) (by decide +kernel))) rfl
theorem tw_913 : Cond.code yJ2_indexOf_4cfef cJ2_indexOf_4cfef 4 (some .int) ∈ TG := TG_in (seg_4 (List.mem_of_getElem? (i := 127) (by decide +kernel))) rfl
theorem tw_914 : Cond.methodLink RJ2 224 yJ9_max_7cf53 ∈ TG := TG_in (seg_4 (List.mem_of_getElem? (i := 128) (by decide +kernel))) rfl
theorem tw_915 : Cond.methodLink RJ2 183 yJ9_min_7cf53 ∈ TG := TG_in (seg_4 (List.mem_of_getElem? (i := 129) (by decide +kernel))) rfl
theorem tw_916 : Cond.constant RJ2 227 (65536) ∈ TG := TG_in (seg_4 (List.mem_of_getElem? (i := 130) (by decide +kernel))) rfl
theorem tw_917 : Cond.methodLink RJ2 228 yJ2_indexOfChar_4cfef ∈ TG := TG_in (seg_4 (List.mem_of_getElem? (i := 131) (by decide +kernel))) rfl
theorem tw_918 : Cond.static yJ2_indexOfChar_4cfef ∈ TG := TG_in (seg_4 (List.mem_of_getElem? (i := 132) (by decide +kernel))) rfl
theorem tw_919 : Cond.code yJ2_indexOfChar_4cfef cJ2_indexOfChar_4cfef 4 (some .int) ∈ TG := TG_in (seg_4 (List.mem_of_getElem? (i := 133) (by decide +kernel))) rfl
theorem tw_920 : Cond.methodLink RJ2 96 yJ2_checkBoundsBeginEnd_d044e ∈ TG := TG_in (seg_4 (List.mem_of_getElem? (i := 134) (by decide +kernel))) rfl
theorem tw_921 : Cond.static yJ2_checkBoundsBeginEnd_d044e ∈ TG := TG_in (seg_4 (List.mem_of_getElem? (i := 135) (by decide +kernel))) rfl
theorem tw_922 : Cond.code yJ2_checkBoundsBeginEnd_d044e cJ2_checkBoundsBeginEnd_d044e 3 none ∈ TG := TG_in (seg_4 (List.mem_of_getElem? (i := 136) (by decide +kernel))) rfl
theorem tw_923 : Cond.methodLink RJ2 241 yJ0_checkBoundsBeginEnd_23922 ∈ TG := TG_in (seg_4 (List.mem_of_getElem? (i := 137) (by decide +kernel))) rfl
theorem tw_924 : Cond.static yJ0_checkBoundsBeginEnd_23922 ∈ TG := TG_in (seg_4 (List.mem_of_getElem? (i := 138) (by decide +kernel))) rfl
theorem tw_925 : Cond.code yJ0_checkBoundsBeginEnd_23922 cJ0_checkBoundsBeginEnd_23922 3 none ∈ TG := TG_in (seg_4 (List.mem_of_getElem? (i := 139) (by decide +kernel))) rfl
theorem tw_926 : Cond.methodLink RJ0 1062 yJ3_checkFromToIndex_8c36e ∈ TG := TG_in (seg_4 (List.mem_of_getElem? (i := 140) (by decide +kernel))) rfl
theorem tw_927 : Cond.static yJ3_checkFromToIndex_8c36e ∈ TG := TG_in (seg_4 (List.mem_of_getElem? (i := 141) (by decide +kernel))) rfl
theorem tw_928 : Cond.code yJ3_checkFromToIndex_8c36e cJ3_checkFromToIndex_8c36e 4 (some .int) ∈ TG := TG_in (seg_4 (List.mem_of_getElem? (i := 142) (by decide +kernel))) rfl
theorem tw_929 : Cond.methodLink RJ2 244 yJ2_indexOfCharUnsafe_4cfef ∈ TG := TG_in (seg_4 (List.mem_of_getElem? (i := 143) (by decide +kernel))) rfl
theorem tw_930 : Cond.static yJ2_indexOfCharUnsafe_4cfef ∈ TG := TG_in (seg_4 (List.mem_of_getElem? (i := 144) (by decide +kernel))) rfl
theorem tw_931 : Cond.code yJ2_indexOfCharUnsafe_4cfef cJ2_indexOfCharUnsafe_4cfef 5 (some .int) ∈ TG := TG_in (seg_4 (List.mem_of_getElem? (i := 145) (by decide +kernel))) rfl
theorem tw_932 : Cond.methodLink RJ2 232 yJ2_indexOfSupplementary_4cfef ∈ TG := TG_in (seg_4 (List.mem_of_getElem? (i := 146) (by decide +kernel))) rfl
theorem tw_933 : Cond.static yJ2_indexOfSupplementary_4cfef ∈ TG := TG_in (seg_4 (List.mem_of_getElem? (i := 147) (by decide +kernel))) rfl
theorem tw_934 : Cond.code yJ2_indexOfSupplementary_4cfef cJ2_indexOfSupplementary_4cfef 7 (some .int) ∈ TG := TG_in (seg_4 (List.mem_of_getElem? (i := 148) (by decide +kernel))) rfl
theorem tw_935 : Cond.methodLink RJ2 164 yJ11_isValidCodePoint_9a6ad ∈ TG := TG_in (seg_4 (List.mem_of_getElem? (i := 149) (by decide +kernel))) rfl
theorem tw_936 : Cond.static yJ11_isValidCodePoint_9a6ad ∈ TG := TG_in (seg_4 (List.mem_of_getElem? (i := 150) (by decide +kernel))) rfl
theorem tw_937 : Cond.code yJ11_isValidCodePoint_9a6ad cJ11_isValidCodePoint_9a6ad 2 (some .boolean) ∈ TG := TG_in (seg_4 (List.mem_of_getElem? (i := 151) (by decide +kernel))) rfl
theorem tw_938 : Cond.methodLink RJ2 157 yJ11_highSurrogate_5068e ∈ TG := TG_in (seg_4 (List.mem_of_getElem? (i := 152) (by decide +kernel))) rfl
theorem tw_939 : Cond.static yJ11_highSurrogate_5068e ∈ TG := TG_in (seg_4 (List.mem_of_getElem? (i := 153) (by decide +kernel))) rfl
theorem tw_940 : Cond.code yJ11_highSurrogate_5068e cJ11_highSurrogate_5068e 1 (some .char) ∈ TG := TG_in (seg_4 (List.mem_of_getElem? (i := 154) (by decide +kernel))) rfl
theorem tw_941 : Cond.constant RJ11 110 (55232) ∈ TG := TG_in (seg_4 (List.mem_of_getElem? (i := 155) (by decide +kernel))) rfl
theorem tw_942 : Cond.methodLink RJ2 161 yJ11_lowSurrogate_5068e ∈ TG := TG_in (seg_4 (List.mem_of_getElem? (i := 156) (by decide +kernel))) rfl
theorem tw_943 : Cond.static yJ11_lowSurrogate_5068e ∈ TG := TG_in (seg_4 (List.mem_of_getElem? (i := 157) (by decide +kernel))) rfl
theorem tw_944 : Cond.code yJ11_lowSurrogate_5068e cJ11_lowSurrogate_5068e 1 (some .char) ∈ TG := TG_in (seg_4 (List.mem_of_getElem? (i := 158) (by decide +kernel))) rfl
theorem tw_945 : Cond.constant RJ11 76 (56320) ∈ TG := TG_in (seg_4 (List.mem_of_getElem? (i := 159) (by decide +kernel))) rfl
theorem tw_946 : Cond.methodLink RX7 121 yX8_addName ∈ TG := TG_in (seg_4 (List.mem_of_getElem? (i := 160) (by decide +kernel))) rfl
theorem tw_947 : Cond.instanceMethod yX8_addName ∈ TG := TG_in (seg_4 (List.mem_of_getElem? (i := 161) (by decide +kernel))) rfl
theorem tw_948 : Cond.selects RX8 yX8_addName yX8_addName ∈ TG := TG_in (seg_4 (List.mem_of_getElem? (i := 162) (by decide +kernel))) rfl
theorem tw_949 : Cond.code yX8_addName cX8_addName 2 none ∈ TG := TG_in (seg_4 (List.mem_of_getElem? (i := 163) (by decide +kernel))) rfl
theorem tw_950 : Cond.methodLink RX7 100 yX7_takeNot ∈ TG := TG_in (seg_4 (List.mem_of_getElem? (i := 164) (by decide +kernel))) rfl
theorem tw_952 : Cond.instanceMethod yX7_takeNot ∈ TG := TG_in (seg_4 (List.mem_of_getElem? (i := 166) (by decide +kernel))) rfl
theorem tw_953 : Cond.code yX7_takeNot cX7_takeNot 4 (some .boolean) ∈ TG := TG_in (seg_4 (List.mem_of_getElem? (i := 167) (by decide +kernel))) rfl
theorem tw_954 : Cond.methodLink RX7 78 yX8_addSign ∈ TG := TG_in (seg_4 (List.mem_of_getElem? (i := 168) (by decide +kernel))) rfl
theorem tw_955 : Cond.instanceMethod yX8_addSign ∈ TG := TG_in (seg_4 (List.mem_of_getElem? (i := 169) (by decide +kernel))) rfl
theorem tw_956 : Cond.selects RX8 yX8_addSign yX8_addSign ∈ TG := TG_in (seg_4 (List.mem_of_getElem? (i := 170) (by decide +kernel))) rfl
theorem tw_957 : Cond.code yX8_addSign cX8_addSign 2 none ∈ TG := TG_in (seg_4 (List.mem_of_getElem? (i := 171) (by decide +kernel))) rfl
theorem tw_958 : Cond.methodLink RX7 103 yX7_takeBracket ∈ TG := TG_in (seg_4 (List.mem_of_getElem? (i := 172) (by decide +kernel))) rfl
theorem tw_960 : Cond.instanceMethod yX7_takeBracket ∈ TG := TG_in (seg_4 (List.mem_of_getElem? (i := 174) (by decide +kernel))) rfl
theorem tw_961 : Cond.code yX7_takeBracket cX7_takeBracket 3 (some .boolean) ∈ TG := TG_in (seg_4 (List.mem_of_getElem? (i := 175) (by decide +kernel))) rfl
theorem tw_963 : Cond.methodLink RL 126 yX11_textTold ∈ TG := TG_in (seg_4 (List.mem_of_getElem? (i := 177) (by decide +kernel))) rfl
theorem tw_964 : Cond.instanceMethod yX11_textTold ∈ TG := TG_in (seg_4 (List.mem_of_getElem? (i := 178) (by decide +kernel))) rfl
theorem tw_965 : Cond.selects RX11 yX11_textTold yX11_textTold ∈ TG := TG_in (seg_4 (List.mem_of_getElem? (i := 179) (by decide +kernel))) rfl
theorem tw_966 : Cond.code yX11_textTold cX11_textTold 3 (some .int) ∈ TG := TG_in (seg_4 (List.mem_of_getElem? (i := 180) (by decide +kernel))) rfl
theorem tw_967 : Cond.methodLink RL 130 yX11_why ∈ TG := TG_in (seg_4 (List.mem_of_getElem? (i := 181) (by decide +kernel))) rfl
theorem tw_968 : Cond.instanceMethod yX11_why ∈ TG := TG_in (seg_4 (List.mem_of_getElem? (i := 182) (by decide +kernel))) rfl
theorem tw_969 : Cond.selects RX11 yX11_why yX11_why ∈ TG := TG_in (seg_4 (List.mem_of_getElem? (i := 183) (by decide +kernel))) rfl
theorem tw_970 : Cond.code yX11_why cX11_why 3 (some .int) ∈ TG := TG_in (seg_4 (List.mem_of_getElem? (i := 184) (by decide +kernel))) rfl
theorem tw_971 : Cond.methodLink RL 134 yX11_sheet ∈ TG := TG_in (seg_4 (List.mem_of_getElem? (i := 185) (by decide +kernel))) rfl
theorem tw_972 : Cond.instanceMethod yX11_sheet ∈ TG := TG_in (seg_4 (List.mem_of_getElem? (i := 186) (by decide +kernel))) rfl
theorem tw_973 : Cond.selects RX11 yX11_sheet yX11_sheet ∈ TG := TG_in (seg_4 (List.mem_of_getElem? (i := 187) (by decide +kernel))) rfl
theorem tw_974 : Cond.code yX11_sheet cX11_sheet 4 (some .int) ∈ TG := TG_in (seg_4 (List.mem_of_getElem? (i := 188) (by decide +kernel))) rfl
theorem tw_975 : Cond.methodLink RX11 280 yX5_become ∈ TG := TG_in (seg_4 (List.mem_of_getElem? (i := 189) (by decide +kernel))) rfl
theorem tw_976 : Cond.instanceMethod yX5_become ∈ TG := TG_in (seg_4 (List.mem_of_getElem? (i := 190) (by decide +kernel))) rfl
theorem tw_977 : Cond.selects RX5 yX5_become yX5_become ∈ TG := TG_in (seg_4 (List.mem_of_getElem? (i := 191) (by decide +kernel))) rfl
theorem tw_978 : Cond.code yX5_become cX5_become 3 none ∈ TG := TG_in (seg_4 (List.mem_of_getElem? (i := 192) (by decide +kernel))) rfl
theorem tw_979 : Cond.methodLink RX5 22 yJ7_fill_53178 ∈ TG := TG_in (seg_4 (List.mem_of_getElem? (i := 193) (by decide +kernel))) rfl
theorem tw_980 : Cond.constant RX11 284 (-1000000014) ∈ TG := TG_in (seg_4 (List.mem_of_getElem? (i := 194) (by decide +kernel))) rfl
theorem tw_981 : Cond.methodLink RL 138 yX11_mark ∈ TG := TG_in (seg_4 (List.mem_of_getElem? (i := 195) (by decide +kernel))) rfl
theorem tw_982 : Cond.instanceMethod yX11_mark ∈ TG := TG_in (seg_4 (List.mem_of_getElem? (i := 196) (by decide +kernel))) rfl
theorem tw_983 : Cond.selects RX11 yX11_mark yX11_mark ∈ TG := TG_in (seg_4 (List.mem_of_getElem? (i := 197) (by decide +kernel))) rfl
theorem tw_984 : Cond.code yX11_mark cX11_mark 5 (some .int) ∈ TG := TG_in (seg_4 (List.mem_of_getElem? (i := 198) (by decide +kernel))) rfl
theorem tw_985 : Cond.methodLink RX11 285 yX5_hasPlace ∈ TG := TG_in (seg_4 (List.mem_of_getElem? (i := 199) (by decide +kernel))) rfl
theorem tw_986 : Cond.instanceMethod yX5_hasPlace ∈ TG := TG_in (seg_4 (List.mem_of_getElem? (i := 200) (by decide +kernel))) rfl
theorem tw_987 : Cond.selects RX5 yX5_hasPlace yX5_hasPlace ∈ TG := TG_in (seg_4 (List.mem_of_getElem? (i := 201) (by decide +kernel))) rfl
theorem tw_988 : Cond.code yX5_hasPlace cX5_hasPlace 2 (some .boolean) ∈ TG := TG_in (seg_4 (List.mem_of_getElem? (i := 202) (by decide +kernel))) rfl
theorem tw_989 : Cond.constant RX11 288 (-1000000013) ∈ TG := TG_in (seg_4 (List.mem_of_getElem? (i := 203) (by decide +kernel))) rfl
theorem tw_990 : Cond.constant RX11 295 (-99999) ∈ TG := TG_in (seg_4 (List.mem_of_getElem? (i := 204) (by decide +kernel))) rfl
theorem tw_991 : Cond.constant RX11 296 (99999) ∈ TG := TG_in (seg_4 (List.mem_of_getElem? (i := 205) (by decide +kernel))) rfl
theorem tw_992 : Cond.methodLink RL 142 yX11_pour ∈ TG := TG_in (seg_4 (List.mem_of_getElem? (i := 206) (by decide +kernel))) rfl
theorem tw_993 : Cond.instanceMethod yX11_pour ∈ TG := TG_in (seg_4 (List.mem_of_getElem? (i := 207) (by decide +kernel))) rfl
theorem tw_994 : Cond.selects RX11 yX11_pour yX11_pour ∈ TG := TG_in (seg_4 (List.mem_of_getElem? (i := 208) (by decide +kernel))) rfl
theorem tw_995 : Cond.code yX11_pour cX11_pour 7 (some .int) ∈ TG := TG_in (seg_4 (List.mem_of_getElem? (i := 209) (by decide +kernel))) rfl
theorem tw_996 : Cond.methodLink RX11 303 yX11_held ∈ TG := TG_in (seg_4 (List.mem_of_getElem? (i := 210) (by decide +kernel))) rfl
theorem tw_997 : Cond.methodLink RL 146 yX11_reads ∈ TG := TG_in (seg_4 (List.mem_of_getElem? (i := 211) (by decide +kernel))) rfl
theorem tw_998 : Cond.instanceMethod yX11_reads ∈ TG := TG_in (seg_4 (List.mem_of_getElem? (i := 212) (by decide +kernel))) rfl
theorem tw_999 : Cond.selects RX11 yX11_reads yX11_reads ∈ TG := TG_in (seg_4 (List.mem_of_getElem? (i := 213) (by decide +kernel))) rfl
theorem tw_1000 : Cond.code yX11_reads cX11_reads 5 (some .int) ∈ TG := TG_in (seg_4 (List.mem_of_getElem? (i := 214) (by decide +kernel))) rfl
theorem tw_1001 : Cond.methodLink RL 150 yX11_copy ∈ TG := TG_in (seg_4 (List.mem_of_getElem? (i := 215) (by decide +kernel))) rfl
theorem tw_1002 : Cond.instanceMethod yX11_copy ∈ TG := TG_in (seg_4 (List.mem_of_getElem? (i := 216) (by decide +kernel))) rfl
theorem tw_1003 : Cond.selects RX11 yX11_copy yX11_copy ∈ TG := TG_in (seg_4 (List.mem_of_getElem? (i := 217) (by decide +kernel))) rfl
theorem tw_1004 : Cond.code yX11_copy cX11_copy 8 (some .int) ∈ TG := TG_in (seg_4 (List.mem_of_getElem? (i := 218) (by decide +kernel))) rfl
theorem tw_1005 : Cond.methodLink RX11 306 yX5_hasPlaces ∈ TG := TG_in (seg_4 (List.mem_of_getElem? (i := 219) (by decide +kernel))) rfl
theorem tw_1006 : Cond.instanceMethod yX5_hasPlaces ∈ TG := TG_in (seg_4 (List.mem_of_getElem? (i := 220) (by decide +kernel))) rfl
theorem tw_1007 : Cond.selects RX5 yX5_hasPlaces yX5_hasPlaces ∈ TG := TG_in (seg_4 (List.mem_of_getElem? (i := 221) (by decide +kernel))) rfl
theorem tw_1008 : Cond.code yX5_hasPlaces cX5_hasPlaces 3 (some .boolean) ∈ TG := TG_in (seg_4 (List.mem_of_getElem? (i := 222) (by decide +kernel))) rfl
theorem tw_1009 : Cond.methodLink RX11 309 ⟨"java/lang/System", "arraycopy", "(Ljava/lang/Object;ILjava/lang/Object;II)V"⟩ ∈ TG := TG_in (seg_4 (List.mem_of_getElem? (i := 223) (by decide +kernel))) rfl
theorem tw_1010 : Cond.methodLink RL 155 yX11_lay ∈ TG := TG_in (seg_4 (List.mem_of_getElem? (i := 224) (by decide +kernel))) rfl
theorem tw_1011 : Cond.instanceMethod yX11_lay ∈ TG := TG_in (seg_4 (List.mem_of_getElem? (i := 225) (by decide +kernel))) rfl
theorem tw_1012 : Cond.selects RX11 yX11_lay yX11_lay ∈ TG := TG_in (seg_4 (List.mem_of_getElem? (i := 226) (by decide +kernel))) rfl
theorem tw_1013 : Cond.code yX11_lay cX11_lay 5 (some .int) ∈ TG := TG_in (seg_4 (List.mem_of_getElem? (i := 227) (by decide +kernel))) rfl
theorem tw_1014 : Cond.methodLink RX11 315 yX11_isSlot ∈ TG := TG_in (seg_4 (List.mem_of_getElem? (i := 228) (by decide +kernel))) rfl
theorem tw_1015 : Cond.static yX11_isSlot ∈ TG := TG_in (seg_4 (List.mem_of_getElem? (i := 229) (by decide +kernel))) rfl
theorem tw_1016 : Cond.code yX11_isSlot cX11_isSlot 1 (some .boolean) ∈ TG := TG_in (seg_4 (List.mem_of_getElem? (i := 230) (by decide +kernel))) rfl
theorem tw_1017 : Cond.methodLink RX11 318 yX4_becomeAs ∈ TG := TG_in (seg_4 (List.mem_of_getElem? (i := 231) (by decide +kernel))) rfl
theorem tw_1018 : Cond.methodLink RX11 321 yX5_becomeAs ∈ TG := TG_in (seg_4 (List.mem_of_getElem? (i := 232) (by decide +kernel))) rfl
theorem tw_1019 : Cond.instanceMethod yX5_becomeAs ∈ TG := TG_in (seg_4 (List.mem_of_getElem? (i := 233) (by decide +kernel))) rfl
theorem tw_1020 : Cond.selects RX5 yX5_becomeAs yX5_becomeAs ∈ TG := TG_in (seg_4 (List.mem_of_getElem? (i := 234) (by decide +kernel))) rfl
theorem tw_1021 : Cond.code yX5_becomeAs cX5_becomeAs 2 none ∈ TG := TG_in (seg_4 (List.mem_of_getElem? (i := 235) (by decide +kernel))) rfl
theorem tw_1022 : Cond.methodLink RX5 28 ⟨"java/lang/System", "arraycopy", "(Ljava/lang/Object;ILjava/lang/Object;II)V"⟩ ∈ TG := TG_in (seg_4 (List.mem_of_getElem? (i := 236) (by decide +kernel))) rfl
theorem tw_1023 : Cond.methodLink RL 159 yX11_ask ∈ TG := TG_in (seg_4 (List.mem_of_getElem? (i := 237) (by decide +kernel))) rfl
theorem tw_1024 : Cond.instanceMethod yX11_ask ∈ TG := TG_in (seg_4 (List.mem_of_getElem? (i := 238) (by decide +kernel))) rfl
theorem tw_1025 : Cond.selects RX11 yX11_ask yX11_ask ∈ TG := TG_in (seg_4 (List.mem_of_getElem? (i := 239) (by decide +kernel))) rfl
theorem tw_1026 : Cond.code yX11_ask cX11_ask 4 (some .int) ∈ TG := TG_in (seg_5 (List.mem_of_getElem? (i := 0) (by decide +kernel))) rfl
theorem tw_1027 : Cond.methodLink RL 163 yX11_item ∈ TG := TG_in (seg_5 (List.mem_of_getElem? (i := 1) (by decide +kernel))) rfl
theorem tw_1028 : Cond.instanceMethod yX11_item ∈ TG := TG_in (seg_5 (List.mem_of_getElem? (i := 2) (by decide +kernel))) rfl
theorem tw_1029 : Cond.selects RX11 yX11_item yX11_item ∈ TG := TG_in (seg_5 (List.mem_of_getElem? (i := 3) (by decide +kernel))) rfl
theorem tw_1030 : Cond.code yX11_item cX11_item 4 (some .int) ∈ TG := TG_in (seg_5 (List.mem_of_getElem? (i := 4) (by decide +kernel))) rfl
theorem tw_1031 : Cond.methodLink RL 167 yX11_rest ∈ TG := TG_in (seg_5 (List.mem_of_getElem? (i := 5) (by decide +kernel))) rfl
theorem tw_1032 : Cond.instanceMethod yX11_rest ∈ TG := TG_in (seg_5 (List.mem_of_getElem? (i := 6) (by decide +kernel))) rfl
theorem tw_1033 : Cond.selects RX11 yX11_rest yX11_rest ∈ TG := TG_in (seg_5 (List.mem_of_getElem? (i := 7) (by decide +kernel))) rfl
theorem tw_1034 : Cond.code yX11_rest cX11_rest 3 (some .int) ∈ TG := TG_in (seg_5 (List.mem_of_getElem? (i := 8) (by decide +kernel))) rfl
theorem tw_1035 : Cond.methodLink RL 171 yX11_tell ∈ TG := TG_in (seg_5 (List.mem_of_getElem? (i := 9) (by decide +kernel))) rfl
theorem tw_1036 : Cond.instanceMethod yX11_tell ∈ TG := TG_in (seg_5 (List.mem_of_getElem? (i := 10) (by decide +kernel))) rfl
theorem tw_1037 : Cond.selects RX11 yX11_tell yX11_tell ∈ TG := TG_in (seg_5 (List.mem_of_getElem? (i := 11) (by decide +kernel))) rfl
theorem tw_1038 : Cond.code yX11_tell cX11_tell 2 (some .int) ∈ TG := TG_in (seg_5 (List.mem_of_getElem? (i := 12) (by decide +kernel))) rfl
theorem tw_1039 : Cond.methodLink RL 175 yX11_check ∈ TG := TG_in (seg_5 (List.mem_of_getElem? (i := 13) (by decide +kernel))) rfl
theorem tw_1040 : Cond.instanceMethod yX11_check ∈ TG := TG_in (seg_5 (List.mem_of_getElem? (i := 14) (by decide +kernel))) rfl
theorem tw_1041 : Cond.selects RX11 yX11_check yX11_check ∈ TG := TG_in (seg_5 (List.mem_of_getElem? (i := 15) (by decide +kernel))) rfl
theorem tw_1042 : Cond.code yX11_check cX11_check 5 (some .int) ∈ TG := TG_in (seg_5 (List.mem_of_getElem? (i := 16) (by decide +kernel))) rfl
theorem tw_1043 : Cond.methodLink RX11 330 yX11_waitsAt ∈ TG := TG_in (seg_5 (List.mem_of_getElem? (i := 17) (by decide +kernel))) rfl
theorem tw_1045 : Cond.instanceMethod yX11_waitsAt ∈ TG := TG_in (seg_5 (List.mem_of_getElem? (i := 19) (by decide +kernel))) rfl
theorem tw_1046 : Cond.code yX11_waitsAt cX11_waitsAt 4 (some .boolean) ∈ TG := TG_in (seg_5 (List.mem_of_getElem? (i := 20) (by decide +kernel))) rfl
theorem tw_1047 : Cond.methodLink RL 179 yX11_keep ∈ TG := TG_in (seg_5 (List.mem_of_getElem? (i := 21) (by decide +kernel))) rfl
theorem tw_1048 : Cond.instanceMethod yX11_keep ∈ TG := TG_in (seg_5 (List.mem_of_getElem? (i := 22) (by decide +kernel))) rfl
theorem tw_1049 : Cond.selects RX11 yX11_keep yX11_keep ∈ TG := TG_in (seg_5 (List.mem_of_getElem? (i := 23) (by decide +kernel))) rfl
theorem tw_1050 : Cond.code yX11_keep cX11_keep 1 (some .int) ∈ TG := TG_in (seg_5 (List.mem_of_getElem? (i := 24) (by decide +kernel))) rfl
theorem tw_1051 : Cond.methodLink RL 183 yX11_back ∈ TG := TG_in (seg_5 (List.mem_of_getElem? (i := 25) (by decide +kernel))) rfl
theorem tw_1052 : Cond.instanceMethod yX11_back ∈ TG := TG_in (seg_5 (List.mem_of_getElem? (i := 26) (by decide +kernel))) rfl
theorem tw_1053 : Cond.selects RX11 yX11_back yX11_back ∈ TG := TG_in (seg_5 (List.mem_of_getElem? (i := 27) (by decide +kernel))) rfl
theorem tw_1054 : Cond.code yX11_back cX11_back 1 (some .int) ∈ TG := TG_in (seg_5 (List.mem_of_getElem? (i := 28) (by decide +kernel))) rfl
theorem tw_1055 : Cond.methodLink RL 187 yX11_count ∈ TG := TG_in (seg_5 (List.mem_of_getElem? (i := 29) (by decide +kernel))) rfl
theorem tw_1056 : Cond.instanceMethod yX11_count ∈ TG := TG_in (seg_5 (List.mem_of_getElem? (i := 30) (by decide +kernel))) rfl
theorem tw_1057 : Cond.selects RX11 yX11_count yX11_count ∈ TG := TG_in (seg_5 (List.mem_of_getElem? (i := 31) (by decide +kernel))) rfl
theorem tw_1058 : Cond.code yX11_count cX11_count 2 (some .int) ∈ TG := TG_in (seg_5 (List.mem_of_getElem? (i := 32) (by decide +kernel))) rfl
theorem tw_1059 : Cond.classLink RL 10 RX12 ∈ TG := TG_in (seg_5 (List.mem_of_getElem? (i := 33) (by decide +kernel))) rfl
theorem tw_1060 : Cond.instantiable RX12 35 ∈ TG := TG_in (seg_5 (List.mem_of_getElem? (i := 34) (by decide +kernel))) rfl
theorem tw_1061 : Cond.methodLink RL 12 yX12_init ∈ TG := TG_in (seg_5 (List.mem_of_getElem? (i := 35) (by decide +kernel))) rfl
theorem tw_1062 : Cond.instanceMethod yX12_init ∈ TG := TG_in (seg_5 (List.mem_of_getElem? (i := 36) (by decide +kernel))) rfl
theorem tw_1063 : Cond.code yX12_init cX12_init 1 none ∈ TG := TG_in (seg_5 (List.mem_of_getElem? (i := 37) (by decide +kernel))) rfl
theorem tw_1064 : Cond.methodLink RX12 1 ⟨"java/lang/Object", "<init>", "()V"⟩ ∈ TG := TG_in (seg_5 (List.mem_of_getElem? (i := 38) (by decide +kernel))) rfl
theorem tw_1065 : Cond.fieldLink RX12 9 "ArguedFerryModel" "now" "[I" ∈ TG := TG_in (seg_5 (List.mem_of_getElem? (i := 39) (by decide +kernel))) rfl
theorem tw_1066 : Cond.fieldLink RX12 13 "ArguedFerryModel" "image" "[I" ∈ TG := TG_in (seg_5 (List.mem_of_getElem? (i := 40) (by decide +kernel))) rfl
theorem tw_1067 : Cond.fieldLink RX12 16 "ArguedFerryModel" "aside" "[I" ∈ TG := TG_in (seg_5 (List.mem_of_getElem? (i := 41) (by decide +kernel))) rfl
theorem tw_1068 : Cond.fieldLink RX12 284 "ArguedFerryModel" "hasImage" "Z" ∈ TG := TG_in (seg_5 (List.mem_of_getElem? (i := 42) (by decide +kernel))) rfl
theorem tw_1069 : Cond.fieldLink RX12 19 "ArguedFerryModel" "before" "[I" ∈ TG := TG_in (seg_5 (List.mem_of_getElem? (i := 43) (by decide +kernel))) rfl
theorem tw_1070 : Cond.fieldLink RX12 22 "ArguedFerryModel" "pair" "[Z" ∈ TG := TG_in (seg_5 (List.mem_of_getElem? (i := 44) (by decide +kernel))) rfl
theorem tw_1071 : Cond.fieldLink RX12 26 "ArguedFerryModel" "off" "[I" ∈ TG := TG_in (seg_5 (List.mem_of_getElem? (i := 45) (by decide +kernel))) rfl
theorem tw_1072 : Cond.fieldLink RX12 29 "ArguedFerryModel" "tape" "[I" ∈ TG := TG_in (seg_5 (List.mem_of_getElem? (i := 46) (by decide +kernel))) rfl
theorem tw_1073 : Cond.fieldLink RX12 206 "ArguedFerryModel" "taped" "I" ∈ TG := TG_in (seg_5 (List.mem_of_getElem? (i := 47) (by decide +kernel))) rfl
theorem tw_1074 : Cond.fieldLink RX12 210 "ArguedFerryModel" "next" "I" ∈ TG := TG_in (seg_5 (List.mem_of_getElem? (i := 48) (by decide +kernel))) rfl
theorem tw_1075 : Cond.fieldLink RX12 213 "ArguedFerryModel" "from" "I" ∈ TG := TG_in (seg_5 (List.mem_of_getElem? (i := 49) (by decide +kernel))) rfl
theorem tw_1076 : Cond.fieldLink RX12 219 "ArguedFerryModel" "token" "I" ∈ TG := TG_in (seg_5 (List.mem_of_getElem? (i := 50) (by decide +kernel))) rfl
theorem tw_1077 : Cond.fieldLink RX12 225 "ArguedFerryModel" "value" "I" ∈ TG := TG_in (seg_5 (List.mem_of_getElem? (i := 51) (by decide +kernel))) rfl
theorem tw_1078 : Cond.fieldLink RX12 216 "ArguedFerryModel" "ended" "I" ∈ TG := TG_in (seg_5 (List.mem_of_getElem? (i := 52) (by decide +kernel))) rfl
theorem tw_1079 : Cond.fieldLink RX12 231 "ArguedFerryModel" "key" "I" ∈ TG := TG_in (seg_5 (List.mem_of_getElem? (i := 53) (by decide +kernel))) rfl
theorem tw_1080 : Cond.fieldLink RX12 32 "ArguedFerryModel" "keys" "[C" ∈ TG := TG_in (seg_5 (List.mem_of_getElem? (i := 54) (by decide +kernel))) rfl
theorem tw_1081 : Cond.fieldLink RX12 36 "ArguedFerryModel" "keyAt" "[I" ∈ TG := TG_in (seg_5 (List.mem_of_getElem? (i := 55) (by decide +kernel))) rfl
theorem tw_1082 : Cond.fieldLink RX12 39 "ArguedFerryModel" "code" "[I" ∈ TG := TG_in (seg_5 (List.mem_of_getElem? (i := 56) (by decide +kernel))) rfl
theorem tw_1083 : Cond.fieldLink RX12 243 "ArguedFerryModel" "codes" "I" ∈ TG := TG_in (seg_5 (List.mem_of_getElem? (i := 57) (by decide +kernel))) rfl
theorem tw_1084 : Cond.fieldLink RX12 249 "ArguedFerryModel" "atoms" "I" ∈ TG := TG_in (seg_5 (List.mem_of_getElem? (i := 58) (by decide +kernel))) rfl
theorem tw_1085 : Cond.fieldLink RX12 42 "ArguedFerryModel" "waits" "[I" ∈ TG := TG_in (seg_5 (List.mem_of_getElem? (i := 59) (by decide +kernel))) rfl
theorem tw_1086 : Cond.fieldLink RX12 237 "ArguedFerryModel" "held" "I" ∈ TG := TG_in (seg_5 (List.mem_of_getElem? (i := 60) (by decide +kernel))) rfl
theorem tw_1087 : Cond.fieldLink RX12 45 "ArguedFerryModel" "tested" "[Z" ∈ TG := TG_in (seg_5 (List.mem_of_getElem? (i := 61) (by decide +kernel))) rfl
theorem tw_1088 : Cond.fieldLink RX12 48 "ArguedFerryModel" "stack" "[I" ∈ TG := TG_in (seg_5 (List.mem_of_getElem? (i := 62) (by decide +kernel))) rfl
theorem tw_1089 : Cond.fieldLink RX12 51 "ArguedFerryModel" "facts" "[I" ∈ TG := TG_in (seg_5 (List.mem_of_getElem? (i := 63) (by decide +kernel))) rfl
theorem tw_1090 : Cond.fieldLink RX12 54 "ArguedFerryModel" "sorts" "[I" ∈ TG := TG_in (seg_5 (List.mem_of_getElem? (i := 64) (by decide +kernel))) rfl
theorem tw_1091 : Cond.fieldLink RX12 57 "ArguedFerryModel" "sizes" "[I" ∈ TG := TG_in (seg_5 (List.mem_of_getElem? (i := 65) (by decide +kernel))) rfl
theorem tw_1092 : Cond.fieldLink RX12 60 "ArguedFerryModel" "cells" "[I" ∈ TG := TG_in (seg_5 (List.mem_of_getElem? (i := 66) (by decide +kernel))) rfl
theorem tw_1093 : Cond.fieldLink RX12 63 "ArguedFerryModel" "holds" "[I" ∈ TG := TG_in (seg_5 (List.mem_of_getElem? (i := 67) (by decide +kernel))) rfl
theorem tw_1094 : Cond.fieldLink RX12 66 "ArguedFerryModel" "holdsA" "[I" ∈ TG := TG_in (seg_5 (List.mem_of_getElem? (i := 68) (by decide +kernel))) rfl
theorem tw_1095 : Cond.fieldLink RX12 69 "ArguedFerryModel" "holdsB" "[I" ∈ TG := TG_in (seg_5 (List.mem_of_getElem? (i := 69) (by decide +kernel))) rfl
theorem tw_1096 : Cond.fieldLink RX12 72 "ArguedFerryModel" "heldCells" "[I" ∈ TG := TG_in (seg_5 (List.mem_of_getElem? (i := 70) (by decide +kernel))) rfl
theorem tw_1097 : Cond.fieldLink RX12 75 "ArguedFerryModel" "moved" "[I" ∈ TG := TG_in (seg_5 (List.mem_of_getElem? (i := 71) (by decide +kernel))) rfl
theorem tw_1098 : Cond.fieldLink RX12 78 "ArguedFerryModel" "tells" "[I" ∈ TG := TG_in (seg_5 (List.mem_of_getElem? (i := 72) (by decide +kernel))) rfl
theorem tw_1099 : Cond.fieldLink RX12 281 "ArguedFerryModel" "waiting" "I" ∈ TG := TG_in (seg_5 (List.mem_of_getElem? (i := 73) (by decide +kernel))) rfl
theorem tw_1171 : Cond.arrayClass .boolean ∈ TG := TG_in (seg_5 (List.mem_of_getElem? (i := 145) (by decide +kernel))) rfl
theorem tw_1172 : Cond.arrayClass .char ∈ TG := TG_in (seg_5 (List.mem_of_getElem? (i := 146) (by decide +kernel))) rfl
theorem tw_1173 : Cond.methodLink RL 17 yX12_one ∈ TG := TG_in (seg_5 (List.mem_of_getElem? (i := 147) (by decide +kernel))) rfl
theorem tw_1174 : Cond.instanceMethod yX12_one ∈ TG := TG_in (seg_5 (List.mem_of_getElem? (i := 148) (by decide +kernel))) rfl
theorem tw_1175 : Cond.selects RX12 yX12_one yX12_one ∈ TG := TG_in (seg_5 (List.mem_of_getElem? (i := 149) (by decide +kernel))) rfl
theorem tw_1176 : Cond.code yX12_one cX12_one 3 (some .int) ∈ TG := TG_in (seg_5 (List.mem_of_getElem? (i := 150) (by decide +kernel))) rfl
theorem tw_1177 : Cond.methodLink RX12 81 yX12_in ∈ TG := TG_in (seg_5 (List.mem_of_getElem? (i := 151) (by decide +kernel))) rfl
theorem tw_1178 : Cond.static yX12_in ∈ TG := TG_in (seg_5 (List.mem_of_getElem? (i := 152) (by decide +kernel))) rfl
theorem tw_1179 : Cond.code yX12_in cX12_in 3 (some .boolean) ∈ TG := TG_in (seg_5 (List.mem_of_getElem? (i := 153) (by decide +kernel))) rfl
theorem tw_1180 : Cond.constant RX12 107 (-1000000001) ∈ TG := TG_in (seg_5 (List.mem_of_getElem? (i := 154) (by decide +kernel))) rfl
theorem tw_1181 : Cond.constant RX12 108 (-1000000003) ∈ TG := TG_in (seg_5 (List.mem_of_getElem? (i := 155) (by decide +kernel))) rfl
theorem tw_1182 : Cond.methodLink RX12 109 yX12_comes ∈ TG := TG_in (seg_5 (List.mem_of_getElem? (i := 156) (by decide +kernel))) rfl
theorem tw_1184 : Cond.instanceMethod yX12_comes ∈ TG := TG_in (seg_5 (List.mem_of_getElem? (i := 158) (by decide +kernel))) rfl
theorem tw_1185 : Cond.code yX12_comes cX12_comes 5 (some .int) ∈ TG := TG_in (seg_5 (List.mem_of_getElem? (i := 159) (by decide +kernel))) rfl
theorem tw_1186 : Cond.methodLink RX12 103 yX12_put ∈ TG := TG_in (seg_5 (List.mem_of_getElem? (i := 160) (by decide +kernel))) rfl
theorem tw_1188 : Cond.instanceMethod yX12_put ∈ TG := TG_in (seg_5 (List.mem_of_getElem? (i := 162) (by decide +kernel))) rfl
theorem tw_1189 : Cond.code yX12_put cX12_put 4 none ∈ TG := TG_in (seg_5 (List.mem_of_getElem? (i := 163) (by decide +kernel))) rfl
theorem tw_1190 : Cond.methodLink RL 21 yX12_told ∈ TG := TG_in (seg_5 (List.mem_of_getElem? (i := 164) (by decide +kernel))) rfl
theorem tw_1191 : Cond.instanceMethod yX12_told ∈ TG := TG_in (seg_5 (List.mem_of_getElem? (i := 165) (by decide +kernel))) rfl
theorem tw_1192 : Cond.selects RX12 yX12_told yX12_told ∈ TG := TG_in (seg_5 (List.mem_of_getElem? (i := 166) (by decide +kernel))) rfl
theorem tw_1193 : Cond.code yX12_told cX12_told 3 (some .int) ∈ TG := TG_in (seg_5 (List.mem_of_getElem? (i := 167) (by decide +kernel))) rfl
theorem tw_1194 : Cond.methodLink RX12 112 yX12_isOne ∈ TG := TG_in (seg_5 (List.mem_of_getElem? (i := 168) (by decide +kernel))) rfl
theorem tw_1196 : Cond.instanceMethod yX12_isOne ∈ TG := TG_in (seg_5 (List.mem_of_getElem? (i := 170) (by decide +kernel))) rfl
theorem tw_1197 : Cond.code yX12_isOne cX12_isOne 2 (some .boolean) ∈ TG := TG_in (seg_5 (List.mem_of_getElem? (i := 171) (by decide +kernel))) rfl
theorem tw_1198 : Cond.methodLink RX12 85 yX12_of ∈ TG := TG_in (seg_5 (List.mem_of_getElem? (i := 172) (by decide +kernel))) rfl
theorem tw_1200 : Cond.instanceMethod yX12_of ∈ TG := TG_in (seg_5 (List.mem_of_getElem? (i := 174) (by decide +kernel))) rfl
theorem tw_1201 : Cond.code yX12_of cX12_of 3 (some .int) ∈ TG := TG_in (seg_5 (List.mem_of_getElem? (i := 175) (by decide +kernel))) rfl
theorem tw_1202 : Cond.methodLink RX12 116 yX12_worthOf ∈ TG := TG_in (seg_5 (List.mem_of_getElem? (i := 176) (by decide +kernel))) rfl
theorem tw_1204 : Cond.instanceMethod yX12_worthOf ∈ TG := TG_in (seg_5 (List.mem_of_getElem? (i := 178) (by decide +kernel))) rfl
theorem tw_1205 : Cond.code yX12_worthOf cX12_worthOf 3 (some .int) ∈ TG := TG_in (seg_5 (List.mem_of_getElem? (i := 179) (by decide +kernel))) rfl
theorem tw_1206 : Cond.methodLink RL 25 yX12_view ∈ TG := TG_in (seg_5 (List.mem_of_getElem? (i := 180) (by decide +kernel))) rfl
theorem tw_1207 : Cond.instanceMethod yX12_view ∈ TG := TG_in (seg_5 (List.mem_of_getElem? (i := 181) (by decide +kernel))) rfl
theorem tw_1208 : Cond.selects RX12 yX12_view yX12_view ∈ TG := TG_in (seg_5 (List.mem_of_getElem? (i := 182) (by decide +kernel))) rfl
theorem tw_1209 : Cond.code yX12_view cX12_view 3 (some .int) ∈ TG := TG_in (seg_5 (List.mem_of_getElem? (i := 183) (by decide +kernel))) rfl
theorem tw_1210 : Cond.methodLink RX12 119 yX12_isMatter ∈ TG := TG_in (seg_5 (List.mem_of_getElem? (i := 184) (by decide +kernel))) rfl
theorem tw_1211 : Cond.static yX12_isMatter ∈ TG := TG_in (seg_5 (List.mem_of_getElem? (i := 185) (by decide +kernel))) rfl
theorem tw_1212 : Cond.code yX12_isMatter cX12_isMatter 1 (some .boolean) ∈ TG := TG_in (seg_5 (List.mem_of_getElem? (i := 186) (by decide +kernel))) rfl
theorem tw_1213 : Cond.methodLink RL 30 yX12_believes ∈ TG := TG_in (seg_5 (List.mem_of_getElem? (i := 187) (by decide +kernel))) rfl
theorem tw_1214 : Cond.instanceMethod yX12_believes ∈ TG := TG_in (seg_5 (List.mem_of_getElem? (i := 188) (by decide +kernel))) rfl
theorem tw_1215 : Cond.selects RX12 yX12_believes yX12_believes ∈ TG := TG_in (seg_5 (List.mem_of_getElem? (i := 189) (by decide +kernel))) rfl
theorem tw_1216 : Cond.code yX12_believes cX12_believes 4 (some .int) ∈ TG := TG_in (seg_5 (List.mem_of_getElem? (i := 190) (by decide +kernel))) rfl
theorem tw_1217 : Cond.methodLink RX12 122 yX12_swaps ∈ TG := TG_in (seg_5 (List.mem_of_getElem? (i := 191) (by decide +kernel))) rfl
theorem tw_1219 : Cond.instanceMethod yX12_swaps ∈ TG := TG_in (seg_5 (List.mem_of_getElem? (i := 193) (by decide +kernel))) rfl
theorem tw_1220 : Cond.code yX12_swaps cX12_swaps 4 (some .int) ∈ TG := TG_in (seg_5 (List.mem_of_getElem? (i := 194) (by decide +kernel))) rfl
theorem tw_1221 : Cond.methodLink RL 34 yX12_as ∈ TG := TG_in (seg_5 (List.mem_of_getElem? (i := 195) (by decide +kernel))) rfl
theorem tw_1222 : Cond.instanceMethod yX12_as ∈ TG := TG_in (seg_5 (List.mem_of_getElem? (i := 196) (by decide +kernel))) rfl
theorem tw_1223 : Cond.selects RX12 yX12_as yX12_as ∈ TG := TG_in (seg_5 (List.mem_of_getElem? (i := 197) (by decide +kernel))) rfl
theorem tw_1224 : Cond.code yX12_as cX12_as 3 (some .int) ∈ TG := TG_in (seg_5 (List.mem_of_getElem? (i := 198) (by decide +kernel))) rfl
theorem tw_1225 : Cond.methodLink RX12 125 yX12_isUnder ∈ TG := TG_in (seg_5 (List.mem_of_getElem? (i := 199) (by decide +kernel))) rfl
theorem tw_1226 : Cond.static yX12_isUnder ∈ TG := TG_in (seg_5 (List.mem_of_getElem? (i := 200) (by decide +kernel))) rfl
theorem tw_1227 : Cond.code yX12_isUnder cX12_isUnder 2 (some .boolean) ∈ TG := TG_in (seg_5 (List.mem_of_getElem? (i := 201) (by decide +kernel))) rfl
theorem tw_1228 : Cond.constant RX12 129 (-1000000012) ∈ TG := TG_in (seg_5 (List.mem_of_getElem? (i := 202) (by decide +kernel))) rfl
theorem tw_1229 : Cond.methodLink RL 38 yX12_turns ∈ TG := TG_in (seg_5 (List.mem_of_getElem? (i := 203) (by decide +kernel))) rfl
theorem tw_1230 : Cond.instanceMethod yX12_turns ∈ TG := TG_in (seg_5 (List.mem_of_getElem? (i := 204) (by decide +kernel))) rfl
theorem tw_1231 : Cond.selects RX12 yX12_turns yX12_turns ∈ TG := TG_in (seg_5 (List.mem_of_getElem? (i := 205) (by decide +kernel))) rfl
theorem tw_1232 : Cond.code yX12_turns cX12_turns 3 (some .int) ∈ TG := TG_in (seg_5 (List.mem_of_getElem? (i := 206) (by decide +kernel))) rfl
theorem tw_1233 : Cond.methodLink RL 42 yX12_set ∈ TG := TG_in (seg_5 (List.mem_of_getElem? (i := 207) (by decide +kernel))) rfl
theorem tw_1234 : Cond.instanceMethod yX12_set ∈ TG := TG_in (seg_5 (List.mem_of_getElem? (i := 208) (by decide +kernel))) rfl
theorem tw_1235 : Cond.selects RX12 yX12_set yX12_set ∈ TG := TG_in (seg_5 (List.mem_of_getElem? (i := 209) (by decide +kernel))) rfl
theorem tw_1236 : Cond.code yX12_set cX12_set 4 (some .int) ∈ TG := TG_in (seg_5 (List.mem_of_getElem? (i := 210) (by decide +kernel))) rfl
theorem tw_1237 : Cond.constant RX12 130 (-1000000002) ∈ TG := TG_in (seg_5 (List.mem_of_getElem? (i := 211) (by decide +kernel))) rfl
theorem tw_1238 : Cond.methodLink RL 46 yX12_rule ∈ TG := TG_in (seg_5 (List.mem_of_getElem? (i := 212) (by decide +kernel))) rfl
theorem tw_1239 : Cond.instanceMethod yX12_rule ∈ TG := TG_in (seg_5 (List.mem_of_getElem? (i := 213) (by decide +kernel))) rfl
theorem tw_1240 : Cond.selects RX12 yX12_rule yX12_rule ∈ TG := TG_in (seg_5 (List.mem_of_getElem? (i := 214) (by decide +kernel))) rfl
theorem tw_1241 : Cond.code yX12_rule cX12_rule 3 (some .int) ∈ TG := TG_in (seg_5 (List.mem_of_getElem? (i := 215) (by decide +kernel))) rfl
theorem tw_1242 : Cond.methodLink RL 51 yX12_deal ∈ TG := TG_in (seg_5 (List.mem_of_getElem? (i := 216) (by decide +kernel))) rfl
theorem tw_1243 : Cond.instanceMethod yX12_deal ∈ TG := TG_in (seg_5 (List.mem_of_getElem? (i := 217) (by decide +kernel))) rfl
theorem tw_1244 : Cond.selects RX12 yX12_deal yX12_deal ∈ TG := TG_in (seg_5 (List.mem_of_getElem? (i := 218) (by decide +kernel))) rfl
theorem tw_1245 : Cond.code yX12_deal cX12_deal 6 (some .int) ∈ TG := TG_in (seg_5 (List.mem_of_getElem? (i := 219) (by decide +kernel))) rfl
theorem tw_1246 : Cond.methodLink RX12 132 yX12_draw ∈ TG := TG_in (seg_5 (List.mem_of_getElem? (i := 220) (by decide +kernel))) rfl
theorem tw_1248 : Cond.instanceMethod yX12_draw ∈ TG := TG_in (seg_5 (List.mem_of_getElem? (i := 222) (by decide +kernel))) rfl
theorem tw_1249 : Cond.code yX12_draw cX12_draw 1 (some .int) ∈ TG := TG_in (seg_5 (List.mem_of_getElem? (i := 223) (by decide +kernel))) rfl
theorem tw_1250 : Cond.constant RX12 131 (1103515245) ∈ TG := TG_in (seg_5 (List.mem_of_getElem? (i := 224) (by decide +kernel))) rfl
theorem tw_1251 : Cond.methodLink RL 55 yX12_seed ∈ TG := TG_in (seg_5 (List.mem_of_getElem? (i := 225) (by decide +kernel))) rfl
theorem tw_1252 : Cond.instanceMethod yX12_seed ∈ TG := TG_in (seg_5 (List.mem_of_getElem? (i := 226) (by decide +kernel))) rfl
theorem tw_1253 : Cond.selects RX12 yX12_seed yX12_seed ∈ TG := TG_in (seg_5 (List.mem_of_getElem? (i := 227) (by decide +kernel))) rfl
theorem tw_1254 : Cond.code yX12_seed cX12_seed 2 (some .int) ∈ TG := TG_in (seg_5 (List.mem_of_getElem? (i := 228) (by decide +kernel))) rfl
theorem tw_1255 : Cond.methodLink RL 59 yX12_boat ∈ TG := TG_in (seg_5 (List.mem_of_getElem? (i := 229) (by decide +kernel))) rfl
theorem tw_1256 : Cond.instanceMethod yX12_boat ∈ TG := TG_in (seg_5 (List.mem_of_getElem? (i := 230) (by decide +kernel))) rfl
theorem tw_1257 : Cond.selects RX12 yX12_boat yX12_boat ∈ TG := TG_in (seg_5 (List.mem_of_getElem? (i := 231) (by decide +kernel))) rfl
theorem tw_1258 : Cond.code yX12_boat cX12_boat 2 (some .int) ∈ TG := TG_in (seg_5 (List.mem_of_getElem? (i := 232) (by decide +kernel))) rfl
theorem tw_1259 : Cond.constant RX12 136 (-1000000005) ∈ TG := TG_in (seg_5 (List.mem_of_getElem? (i := 233) (by decide +kernel))) rfl
theorem tw_1260 : Cond.methodLink RL 64 yX12_argues ∈ TG := TG_in (seg_5 (List.mem_of_getElem? (i := 234) (by decide +kernel))) rfl
theorem tw_1261 : Cond.instanceMethod yX12_argues ∈ TG := TG_in (seg_5 (List.mem_of_getElem? (i := 235) (by decide +kernel))) rfl
theorem tw_1262 : Cond.selects RX12 yX12_argues yX12_argues ∈ TG := TG_in (seg_5 (List.mem_of_getElem? (i := 236) (by decide +kernel))) rfl
theorem tw_1263 : Cond.code yX12_argues cX12_argues 5 (some .int) ∈ TG := TG_in (seg_5 (List.mem_of_getElem? (i := 237) (by decide +kernel))) rfl
theorem tw_1264 : Cond.methodLink RX12 137 yX12_areTwo ∈ TG := TG_in (seg_5 (List.mem_of_getElem? (i := 238) (by decide +kernel))) rfl
theorem tw_1266 : Cond.instanceMethod yX12_areTwo ∈ TG := TG_in (seg_6 (List.mem_of_getElem? (i := 0) (by decide +kernel))) rfl
theorem tw_1267 : Cond.code yX12_areTwo cX12_areTwo 3 (some .boolean) ∈ TG := TG_in (seg_6 (List.mem_of_getElem? (i := 1) (by decide +kernel))) rfl
theorem tw_1268 : Cond.methodLink RX12 89 yX12_apart ∈ TG := TG_in (seg_6 (List.mem_of_getElem? (i := 2) (by decide +kernel))) rfl
theorem tw_1270 : Cond.instanceMethod yX12_apart ∈ TG := TG_in (seg_6 (List.mem_of_getElem? (i := 4) (by decide +kernel))) rfl
theorem tw_1271 : Cond.code yX12_apart cX12_apart 5 (some .int) ∈ TG := TG_in (seg_6 (List.mem_of_getElem? (i := 5) (by decide +kernel))) rfl
theorem tw_1272 : Cond.methodLink RX12 140 yX12_speaks ∈ TG := TG_in (seg_6 (List.mem_of_getElem? (i := 6) (by decide +kernel))) rfl
theorem tw_1274 : Cond.instanceMethod yX12_speaks ∈ TG := TG_in (seg_6 (List.mem_of_getElem? (i := 8) (by decide +kernel))) rfl
theorem tw_1275 : Cond.code yX12_speaks cX12_speaks 8 (some .int) ∈ TG := TG_in (seg_6 (List.mem_of_getElem? (i := 9) (by decide +kernel))) rfl
theorem tw_1276 : Cond.methodLink RX12 93 yX12_counts ∈ TG := TG_in (seg_6 (List.mem_of_getElem? (i := 10) (by decide +kernel))) rfl
theorem tw_1278 : Cond.instanceMethod yX12_counts ∈ TG := TG_in (seg_6 (List.mem_of_getElem? (i := 12) (by decide +kernel))) rfl
theorem tw_1279 : Cond.code yX12_counts cX12_counts 3 (some .int) ∈ TG := TG_in (seg_6 (List.mem_of_getElem? (i := 13) (by decide +kernel))) rfl
theorem tw_1280 : Cond.methodLink RX12 97 yX12_worksOut ∈ TG := TG_in (seg_6 (List.mem_of_getElem? (i := 14) (by decide +kernel))) rfl
theorem tw_1282 : Cond.instanceMethod yX12_worksOut ∈ TG := TG_in (seg_6 (List.mem_of_getElem? (i := 16) (by decide +kernel))) rfl
theorem tw_1283 : Cond.code yX12_worksOut cX12_worksOut 6 (some .int) ∈ TG := TG_in (seg_6 (List.mem_of_getElem? (i := 17) (by decide +kernel))) rfl
theorem tw_1284 : Cond.methodLink RX12 271 yX12_two ∈ TG := TG_in (seg_6 (List.mem_of_getElem? (i := 18) (by decide +kernel))) rfl
theorem tw_1285 : Cond.static yX12_two ∈ TG := TG_in (seg_6 (List.mem_of_getElem? (i := 19) (by decide +kernel))) rfl
theorem tw_1286 : Cond.code yX12_two cX12_two 3 (some .int) ∈ TG := TG_in (seg_6 (List.mem_of_getElem? (i := 20) (by decide +kernel))) rfl
theorem tw_1287 : Cond.methodLink RX12 100 yX12_within ∈ TG := TG_in (seg_6 (List.mem_of_getElem? (i := 21) (by decide +kernel))) rfl
theorem tw_1288 : Cond.static yX12_within ∈ TG := TG_in (seg_6 (List.mem_of_getElem? (i := 22) (by decide +kernel))) rfl
theorem tw_1289 : Cond.code yX12_within cX12_within 3 (some .int) ∈ TG := TG_in (seg_6 (List.mem_of_getElem? (i := 23) (by decide +kernel))) rfl
theorem tw_1290 : Cond.methodLink RX12 143 yX12_heats ∈ TG := TG_in (seg_6 (List.mem_of_getElem? (i := 24) (by decide +kernel))) rfl
theorem tw_1292 : Cond.instanceMethod yX12_heats ∈ TG := TG_in (seg_6 (List.mem_of_getElem? (i := 26) (by decide +kernel))) rfl
theorem tw_1293 : Cond.code yX12_heats cX12_heats 5 (some .int) ∈ TG := TG_in (seg_6 (List.mem_of_getElem? (i := 27) (by decide +kernel))) rfl
theorem tw_1294 : Cond.methodLink RX12 146 yX12_shifts ∈ TG := TG_in (seg_6 (List.mem_of_getElem? (i := 28) (by decide +kernel))) rfl
theorem tw_1296 : Cond.instanceMethod yX12_shifts ∈ TG := TG_in (seg_6 (List.mem_of_getElem? (i := 30) (by decide +kernel))) rfl
theorem tw_1297 : Cond.code yX12_shifts cX12_shifts 6 (some .int) ∈ TG := TG_in (seg_6 (List.mem_of_getElem? (i := 31) (by decide +kernel))) rfl
theorem tw_1298 : Cond.methodLink RL 68 yX12_minutes ∈ TG := TG_in (seg_6 (List.mem_of_getElem? (i := 32) (by decide +kernel))) rfl
theorem tw_1299 : Cond.instanceMethod yX12_minutes ∈ TG := TG_in (seg_6 (List.mem_of_getElem? (i := 33) (by decide +kernel))) rfl
theorem tw_1300 : Cond.selects RX12 yX12_minutes yX12_minutes ∈ TG := TG_in (seg_6 (List.mem_of_getElem? (i := 34) (by decide +kernel))) rfl
theorem tw_1301 : Cond.code yX12_minutes cX12_minutes 3 (some .int) ∈ TG := TG_in (seg_6 (List.mem_of_getElem? (i := 35) (by decide +kernel))) rfl
theorem tw_1302 : Cond.methodLink RX12 168 yX12_goesOn ∈ TG := TG_in (seg_6 (List.mem_of_getElem? (i := 36) (by decide +kernel))) rfl
theorem tw_1304 : Cond.instanceMethod yX12_goesOn ∈ TG := TG_in (seg_6 (List.mem_of_getElem? (i := 38) (by decide +kernel))) rfl
theorem tw_1305 : Cond.code yX12_goesOn cX12_goesOn 3 none ∈ TG := TG_in (seg_6 (List.mem_of_getElem? (i := 39) (by decide +kernel))) rfl
theorem tw_1306 : Cond.methodLink RX12 165 yX12_minute ∈ TG := TG_in (seg_6 (List.mem_of_getElem? (i := 40) (by decide +kernel))) rfl
theorem tw_1308 : Cond.instanceMethod yX12_minute ∈ TG := TG_in (seg_6 (List.mem_of_getElem? (i := 42) (by decide +kernel))) rfl
theorem tw_1309 : Cond.code yX12_minute cX12_minute 1 none ∈ TG := TG_in (seg_6 (List.mem_of_getElem? (i := 43) (by decide +kernel))) rfl
theorem tw_1310 : Cond.methodLink RX12 160 yX12_waits ∈ TG := TG_in (seg_6 (List.mem_of_getElem? (i := 44) (by decide +kernel))) rfl
theorem tw_1312 : Cond.instanceMethod yX12_waits ∈ TG := TG_in (seg_6 (List.mem_of_getElem? (i := 46) (by decide +kernel))) rfl
theorem tw_1313 : Cond.code yX12_waits cX12_waits 3 none ∈ TG := TG_in (seg_6 (List.mem_of_getElem? (i := 47) (by decide +kernel))) rfl
theorem tw_1314 : Cond.methodLink RX12 149 yX12_nextAt ∈ TG := TG_in (seg_6 (List.mem_of_getElem? (i := 48) (by decide +kernel))) rfl
theorem tw_1316 : Cond.instanceMethod yX12_nextAt ∈ TG := TG_in (seg_6 (List.mem_of_getElem? (i := 50) (by decide +kernel))) rfl
theorem tw_1317 : Cond.code yX12_nextAt cX12_nextAt 4 (some .int) ∈ TG := TG_in (seg_6 (List.mem_of_getElem? (i := 51) (by decide +kernel))) rfl
theorem tw_1318 : Cond.methodLink RX12 152 yX12_goAboard ∈ TG := TG_in (seg_6 (List.mem_of_getElem? (i := 52) (by decide +kernel))) rfl
theorem tw_1320 : Cond.instanceMethod yX12_goAboard ∈ TG := TG_in (seg_6 (List.mem_of_getElem? (i := 54) (by decide +kernel))) rfl
theorem tw_1321 : Cond.code yX12_goAboard cX12_goAboard 3 none ∈ TG := TG_in (seg_6 (List.mem_of_getElem? (i := 55) (by decide +kernel))) rfl
theorem tw_1322 : Cond.methodLink RX12 162 yX12_quarrel ∈ TG := TG_in (seg_6 (List.mem_of_getElem? (i := 56) (by decide +kernel))) rfl
theorem tw_1324 : Cond.instanceMethod yX12_quarrel ∈ TG := TG_in (seg_6 (List.mem_of_getElem? (i := 58) (by decide +kernel))) rfl
theorem tw_1325 : Cond.code yX12_quarrel cX12_quarrel 6 none ∈ TG := TG_in (seg_6 (List.mem_of_getElem? (i := 59) (by decide +kernel))) rfl
theorem tw_1326 : Cond.methodLink RX12 156 yX12_comesTo ∈ TG := TG_in (seg_6 (List.mem_of_getElem? (i := 60) (by decide +kernel))) rfl
theorem tw_1328 : Cond.instanceMethod yX12_comesTo ∈ TG := TG_in (seg_6 (List.mem_of_getElem? (i := 62) (by decide +kernel))) rfl
theorem tw_1329 : Cond.code yX12_comesTo cX12_comesTo 2 none ∈ TG := TG_in (seg_6 (List.mem_of_getElem? (i := 63) (by decide +kernel))) rfl
theorem tw_1330 : Cond.methodLink RL 72 yX12_ferry ∈ TG := TG_in (seg_6 (List.mem_of_getElem? (i := 64) (by decide +kernel))) rfl
theorem tw_1331 : Cond.instanceMethod yX12_ferry ∈ TG := TG_in (seg_6 (List.mem_of_getElem? (i := 65) (by decide +kernel))) rfl
theorem tw_1332 : Cond.selects RX12 yX12_ferry yX12_ferry ∈ TG := TG_in (seg_6 (List.mem_of_getElem? (i := 66) (by decide +kernel))) rfl
theorem tw_1333 : Cond.code yX12_ferry cX12_ferry 2 (some .int) ∈ TG := TG_in (seg_6 (List.mem_of_getElem? (i := 67) (by decide +kernel))) rfl
theorem tw_1334 : Cond.methodLink RX12 171 yX12_across ∈ TG := TG_in (seg_6 (List.mem_of_getElem? (i := 68) (by decide +kernel))) rfl
theorem tw_1336 : Cond.instanceMethod yX12_across ∈ TG := TG_in (seg_6 (List.mem_of_getElem? (i := 70) (by decide +kernel))) rfl
theorem tw_1337 : Cond.code yX12_across cX12_across 3 (some .int) ∈ TG := TG_in (seg_6 (List.mem_of_getElem? (i := 71) (by decide +kernel))) rfl
theorem tw_1338 : Cond.methodLink RX12 174 yX12_tempers ∈ TG := TG_in (seg_6 (List.mem_of_getElem? (i := 72) (by decide +kernel))) rfl
theorem tw_1340 : Cond.instanceMethod yX12_tempers ∈ TG := TG_in (seg_6 (List.mem_of_getElem? (i := 74) (by decide +kernel))) rfl
theorem tw_1341 : Cond.code yX12_tempers cX12_tempers 3 (some .int) ∈ TG := TG_in (seg_6 (List.mem_of_getElem? (i := 75) (by decide +kernel))) rfl
theorem tw_1342 : Cond.methodLink RL 76 yX12_over ∈ TG := TG_in (seg_6 (List.mem_of_getElem? (i := 76) (by decide +kernel))) rfl
theorem tw_1343 : Cond.instanceMethod yX12_over ∈ TG := TG_in (seg_6 (List.mem_of_getElem? (i := 77) (by decide +kernel))) rfl
theorem tw_1344 : Cond.selects RX12 yX12_over yX12_over ∈ TG := TG_in (seg_6 (List.mem_of_getElem? (i := 78) (by decide +kernel))) rfl
theorem tw_1345 : Cond.code yX12_over cX12_over 5 (some .int) ∈ TG := TG_in (seg_6 (List.mem_of_getElem? (i := 79) (by decide +kernel))) rfl
theorem tw_1346 : Cond.methodLink RX12 187 yX12_overIn ∈ TG := TG_in (seg_6 (List.mem_of_getElem? (i := 80) (by decide +kernel))) rfl
theorem tw_1348 : Cond.instanceMethod yX12_overIn ∈ TG := TG_in (seg_6 (List.mem_of_getElem? (i := 82) (by decide +kernel))) rfl
theorem tw_1349 : Cond.code yX12_overIn cX12_overIn 6 (some .int) ∈ TG := TG_in (seg_6 (List.mem_of_getElem? (i := 83) (by decide +kernel))) rfl
theorem tw_1350 : Cond.methodLink RX12 181 yX12_thinks ∈ TG := TG_in (seg_6 (List.mem_of_getElem? (i := 84) (by decide +kernel))) rfl
theorem tw_1352 : Cond.instanceMethod yX12_thinks ∈ TG := TG_in (seg_6 (List.mem_of_getElem? (i := 86) (by decide +kernel))) rfl
theorem tw_1353 : Cond.code yX12_thinks cX12_thinks 1 none ∈ TG := TG_in (seg_6 (List.mem_of_getElem? (i := 87) (by decide +kernel))) rfl
theorem tw_1354 : Cond.methodLink RX12 177 yX12_copyAll ∈ TG := TG_in (seg_6 (List.mem_of_getElem? (i := 88) (by decide +kernel))) rfl
theorem tw_1355 : Cond.static yX12_copyAll ∈ TG := TG_in (seg_6 (List.mem_of_getElem? (i := 89) (by decide +kernel))) rfl
theorem tw_1356 : Cond.code yX12_copyAll cX12_copyAll 3 none ∈ TG := TG_in (seg_6 (List.mem_of_getElem? (i := 90) (by decide +kernel))) rfl
theorem tw_1357 : Cond.methodLink RX12 184 yX12_putsBack ∈ TG := TG_in (seg_6 (List.mem_of_getElem? (i := 91) (by decide +kernel))) rfl
theorem tw_1359 : Cond.instanceMethod yX12_putsBack ∈ TG := TG_in (seg_6 (List.mem_of_getElem? (i := 93) (by decide +kernel))) rfl
theorem tw_1360 : Cond.code yX12_putsBack cX12_putsBack 1 none ∈ TG := TG_in (seg_6 (List.mem_of_getElem? (i := 94) (by decide +kernel))) rfl
theorem tw_1361 : Cond.methodLink RL 80 yX12_settles ∈ TG := TG_in (seg_6 (List.mem_of_getElem? (i := 95) (by decide +kernel))) rfl
theorem tw_1362 : Cond.instanceMethod yX12_settles ∈ TG := TG_in (seg_6 (List.mem_of_getElem? (i := 96) (by decide +kernel))) rfl
theorem tw_1363 : Cond.selects RX12 yX12_settles yX12_settles ∈ TG := TG_in (seg_6 (List.mem_of_getElem? (i := 97) (by decide +kernel))) rfl
theorem tw_1364 : Cond.code yX12_settles cX12_settles 4 (some .int) ∈ TG := TG_in (seg_6 (List.mem_of_getElem? (i := 98) (by decide +kernel))) rfl
theorem tw_1365 : Cond.methodLink RX12 190 yX12_soonest ∈ TG := TG_in (seg_6 (List.mem_of_getElem? (i := 99) (by decide +kernel))) rfl
theorem tw_1367 : Cond.instanceMethod yX12_soonest ∈ TG := TG_in (seg_6 (List.mem_of_getElem? (i := 101) (by decide +kernel))) rfl
theorem tw_1368 : Cond.code yX12_soonest cX12_soonest 8 (some .int) ∈ TG := TG_in (seg_6 (List.mem_of_getElem? (i := 102) (by decide +kernel))) rfl
theorem tw_1369 : Cond.methodLink RL 84 yX12_pairs ∈ TG := TG_in (seg_6 (List.mem_of_getElem? (i := 103) (by decide +kernel))) rfl
theorem tw_1370 : Cond.instanceMethod yX12_pairs ∈ TG := TG_in (seg_6 (List.mem_of_getElem? (i := 104) (by decide +kernel))) rfl
theorem tw_1371 : Cond.selects RX12 yX12_pairs yX12_pairs ∈ TG := TG_in (seg_6 (List.mem_of_getElem? (i := 105) (by decide +kernel))) rfl
theorem tw_1372 : Cond.code yX12_pairs cX12_pairs 5 (some .int) ∈ TG := TG_in (seg_6 (List.mem_of_getElem? (i := 106) (by decide +kernel))) rfl
theorem tw_1373 : Cond.methodLink RX12 193 yX12_pairsOf ∈ TG := TG_in (seg_6 (List.mem_of_getElem? (i := 107) (by decide +kernel))) rfl
theorem tw_1375 : Cond.instanceMethod yX12_pairsOf ∈ TG := TG_in (seg_6 (List.mem_of_getElem? (i := 109) (by decide +kernel))) rfl
theorem tw_1376 : Cond.code yX12_pairsOf cX12_pairsOf 7 (some .int) ∈ TG := TG_in (seg_6 (List.mem_of_getElem? (i := 110) (by decide +kernel))) rfl
theorem tw_1377 : Cond.methodLink RL 88 yX12_behind ∈ TG := TG_in (seg_6 (List.mem_of_getElem? (i := 111) (by decide +kernel))) rfl
theorem tw_1378 : Cond.instanceMethod yX12_behind ∈ TG := TG_in (seg_6 (List.mem_of_getElem? (i := 112) (by decide +kernel))) rfl
theorem tw_1379 : Cond.selects RX12 yX12_behind yX12_behind ∈ TG := TG_in (seg_6 (List.mem_of_getElem? (i := 113) (by decide +kernel))) rfl
theorem tw_1380 : Cond.code yX12_behind cX12_behind 4 (some .int) ∈ TG := TG_in (seg_6 (List.mem_of_getElem? (i := 114) (by decide +kernel))) rfl
theorem tw_1381 : Cond.methodLink RX12 196 yX12_ferry ∈ TG := TG_in (seg_6 (List.mem_of_getElem? (i := 115) (by decide +kernel))) rfl
theorem tw_1382 : Cond.methodLink RL 92 yX12_lands ∈ TG := TG_in (seg_6 (List.mem_of_getElem? (i := 116) (by decide +kernel))) rfl
theorem tw_1383 : Cond.instanceMethod yX12_lands ∈ TG := TG_in (seg_6 (List.mem_of_getElem? (i := 117) (by decide +kernel))) rfl
theorem tw_1384 : Cond.selects RX12 yX12_lands yX12_lands ∈ TG := TG_in (seg_6 (List.mem_of_getElem? (i := 118) (by decide +kernel))) rfl
theorem tw_1385 : Cond.code yX12_lands cX12_lands 3 (some .int) ∈ TG := TG_in (seg_6 (List.mem_of_getElem? (i := 119) (by decide +kernel))) rfl
theorem tw_1386 : Cond.methodLink RL 96 yX12_calm ∈ TG := TG_in (seg_6 (List.mem_of_getElem? (i := 120) (by decide +kernel))) rfl
theorem tw_1387 : Cond.instanceMethod yX12_calm ∈ TG := TG_in (seg_6 (List.mem_of_getElem? (i := 121) (by decide +kernel))) rfl
theorem tw_1388 : Cond.selects RX12 yX12_calm yX12_calm ∈ TG := TG_in (seg_6 (List.mem_of_getElem? (i := 122) (by decide +kernel))) rfl
theorem tw_1389 : Cond.code yX12_calm cX12_calm 7 (some .int) ∈ TG := TG_in (seg_6 (List.mem_of_getElem? (i := 123) (by decide +kernel))) rfl
theorem tw_1390 : Cond.methodLink RX12 199 yX12_crossedBy ∈ TG := TG_in (seg_6 (List.mem_of_getElem? (i := 124) (by decide +kernel))) rfl
theorem tw_1392 : Cond.instanceMethod yX12_crossedBy ∈ TG := TG_in (seg_6 (List.mem_of_getElem? (i := 126) (by decide +kernel))) rfl
theorem tw_1393 : Cond.code yX12_crossedBy cX12_crossedBy 3 (some .int) ∈ TG := TG_in (seg_6 (List.mem_of_getElem? (i := 127) (by decide +kernel))) rfl
theorem tw_1394 : Cond.methodLink RL 100 yX12_becomes ∈ TG := TG_in (seg_6 (List.mem_of_getElem? (i := 128) (by decide +kernel))) rfl
theorem tw_1395 : Cond.instanceMethod yX12_becomes ∈ TG := TG_in (seg_6 (List.mem_of_getElem? (i := 129) (by decide +kernel))) rfl
theorem tw_1396 : Cond.selects RX12 yX12_becomes yX12_becomes ∈ TG := TG_in (seg_6 (List.mem_of_getElem? (i := 130) (by decide +kernel))) rfl
theorem tw_1397 : Cond.code yX12_becomes cX12_becomes 8 (some .int) ∈ TG := TG_in (seg_6 (List.mem_of_getElem? (i := 131) (by decide +kernel))) rfl
theorem tw_1398 : Cond.methodLink RL 104 yX12_like ∈ TG := TG_in (seg_6 (List.mem_of_getElem? (i := 132) (by decide +kernel))) rfl
theorem tw_1399 : Cond.instanceMethod yX12_like ∈ TG := TG_in (seg_6 (List.mem_of_getElem? (i := 133) (by decide +kernel))) rfl
theorem tw_1400 : Cond.selects RX12 yX12_like yX12_like ∈ TG := TG_in (seg_6 (List.mem_of_getElem? (i := 134) (by decide +kernel))) rfl
theorem tw_1401 : Cond.code yX12_like cX12_like 7 (some .int) ∈ TG := TG_in (seg_6 (List.mem_of_getElem? (i := 135) (by decide +kernel))) rfl
theorem tw_1402 : Cond.methodLink RX12 202 yX12_isSheet ∈ TG := TG_in (seg_6 (List.mem_of_getElem? (i := 136) (by decide +kernel))) rfl
theorem tw_1403 : Cond.static yX12_isSheet ∈ TG := TG_in (seg_6 (List.mem_of_getElem? (i := 137) (by decide +kernel))) rfl
theorem tw_1404 : Cond.code yX12_isSheet cX12_isSheet 1 (some .boolean) ∈ TG := TG_in (seg_6 (List.mem_of_getElem? (i := 138) (by decide +kernel))) rfl
theorem tw_1405 : Cond.constant RX12 205 (-1000000011) ∈ TG := TG_in (seg_6 (List.mem_of_getElem? (i := 139) (by decide +kernel))) rfl
theorem tw_1406 : Cond.methodLink RL 109 yX12_fee ∈ TG := TG_in (seg_6 (List.mem_of_getElem? (i := 140) (by decide +kernel))) rfl
theorem tw_1407 : Cond.instanceMethod yX12_fee ∈ TG := TG_in (seg_6 (List.mem_of_getElem? (i := 141) (by decide +kernel))) rfl
theorem tw_1408 : Cond.selects RX12 yX12_fee yX12_fee ∈ TG := TG_in (seg_6 (List.mem_of_getElem? (i := 142) (by decide +kernel))) rfl
theorem tw_1409 : Cond.code yX12_fee cX12_fee 2 (some .int) ∈ TG := TG_in (seg_6 (List.mem_of_getElem? (i := 143) (by decide +kernel))) rfl
theorem tw_1410 : Cond.methodLink RL 113 yX12_fine ∈ TG := TG_in (seg_6 (List.mem_of_getElem? (i := 144) (by decide +kernel))) rfl
theorem tw_1411 : Cond.instanceMethod yX12_fine ∈ TG := TG_in (seg_6 (List.mem_of_getElem? (i := 145) (by decide +kernel))) rfl
theorem tw_1412 : Cond.selects RX12 yX12_fine yX12_fine ∈ TG := TG_in (seg_6 (List.mem_of_getElem? (i := 146) (by decide +kernel))) rfl
theorem tw_1413 : Cond.code yX12_fine cX12_fine 3 (some .int) ∈ TG := TG_in (seg_6 (List.mem_of_getElem? (i := 147) (by decide +kernel))) rfl
theorem tw_1414 : Cond.methodLink RL 117 yX12_feed ∈ TG := TG_in (seg_6 (List.mem_of_getElem? (i := 148) (by decide +kernel))) rfl
theorem tw_1415 : Cond.instanceMethod yX12_feed ∈ TG := TG_in (seg_6 (List.mem_of_getElem? (i := 149) (by decide +kernel))) rfl
theorem tw_1416 : Cond.selects RX12 yX12_feed yX12_feed ∈ TG := TG_in (seg_6 (List.mem_of_getElem? (i := 150) (by decide +kernel))) rfl
theorem tw_1417 : Cond.code yX12_feed cX12_feed 6 (some .int) ∈ TG := TG_in (seg_6 (List.mem_of_getElem? (i := 151) (by decide +kernel))) rfl
theorem tw_1418 : Cond.methodLink RL 121 yX12_trim ∈ TG := TG_in (seg_6 (List.mem_of_getElem? (i := 152) (by decide +kernel))) rfl
theorem tw_1419 : Cond.instanceMethod yX12_trim ∈ TG := TG_in (seg_6 (List.mem_of_getElem? (i := 153) (by decide +kernel))) rfl
theorem tw_1420 : Cond.selects RX12 yX12_trim yX12_trim ∈ TG := TG_in (seg_6 (List.mem_of_getElem? (i := 154) (by decide +kernel))) rfl
theorem tw_1421 : Cond.code yX12_trim cX12_trim 2 (some .int) ∈ TG := TG_in (seg_6 (List.mem_of_getElem? (i := 155) (by decide +kernel))) rfl
theorem tw_1422 : Cond.methodLink RL 125 yX12_text ∈ TG := TG_in (seg_6 (List.mem_of_getElem? (i := 156) (by decide +kernel))) rfl
theorem tw_1423 : Cond.instanceMethod yX12_text ∈ TG := TG_in (seg_6 (List.mem_of_getElem? (i := 157) (by decide +kernel))) rfl
theorem tw_1424 : Cond.selects RX12 yX12_text yX12_text ∈ TG := TG_in (seg_6 (List.mem_of_getElem? (i := 158) (by decide +kernel))) rfl
theorem tw_1425 : Cond.code yX12_text cX12_text 4 (some .int) ∈ TG := TG_in (seg_6 (List.mem_of_getElem? (i := 159) (by decide +kernel))) rfl
theorem tw_1426 : Cond.methodLink RX12 234 yX12_go ∈ TG := TG_in (seg_6 (List.mem_of_getElem? (i := 160) (by decide +kernel))) rfl
theorem tw_1428 : Cond.instanceMethod yX12_go ∈ TG := TG_in (seg_6 (List.mem_of_getElem? (i := 162) (by decide +kernel))) rfl
theorem tw_1429 : Cond.code yX12_go cX12_go 2 none ∈ TG := TG_in (seg_6 (List.mem_of_getElem? (i := 163) (by decide +kernel))) rfl
theorem tw_1430 : Cond.methodLink RX12 222 yX12_isLetter ∈ TG := TG_in (seg_6 (List.mem_of_getElem? (i := 164) (by decide +kernel))) rfl
theorem tw_1432 : Cond.instanceMethod yX12_isLetter ∈ TG := TG_in (seg_6 (List.mem_of_getElem? (i := 166) (by decide +kernel))) rfl
theorem tw_1433 : Cond.code yX12_isLetter cX12_isLetter 2 (some .boolean) ∈ TG := TG_in (seg_6 (List.mem_of_getElem? (i := 167) (by decide +kernel))) rfl
theorem tw_1434 : Cond.methodLink RX12 228 yX12_isFigure ∈ TG := TG_in (seg_6 (List.mem_of_getElem? (i := 168) (by decide +kernel))) rfl
theorem tw_1436 : Cond.instanceMethod yX12_isFigure ∈ TG := TG_in (seg_6 (List.mem_of_getElem? (i := 170) (by decide +kernel))) rfl
theorem tw_1437 : Cond.code yX12_isFigure cX12_isFigure 2 (some .boolean) ∈ TG := TG_in (seg_6 (List.mem_of_getElem? (i := 171) (by decide +kernel))) rfl
theorem tw_1438 : Cond.methodLink RX12 265 yX12_takesKey ∈ TG := TG_in (seg_6 (List.mem_of_getElem? (i := 172) (by decide +kernel))) rfl
theorem tw_1440 : Cond.instanceMethod yX12_takesKey ∈ TG := TG_in (seg_6 (List.mem_of_getElem? (i := 174) (by decide +kernel))) rfl
theorem tw_1441 : Cond.code yX12_takesKey cX12_takesKey 5 (some .boolean) ∈ TG := TG_in (seg_6 (List.mem_of_getElem? (i := 175) (by decide +kernel))) rfl
theorem tw_1442 : Cond.methodLink RX12 268 yX12_takesE ∈ TG := TG_in (seg_6 (List.mem_of_getElem? (i := 176) (by decide +kernel))) rfl
theorem tw_1444 : Cond.instanceMethod yX12_takesE ∈ TG := TG_in (seg_6 (List.mem_of_getElem? (i := 178) (by decide +kernel))) rfl
theorem tw_1445 : Cond.code yX12_takesE cX12_takesE 5 (some .boolean) ∈ TG := TG_in (seg_6 (List.mem_of_getElem? (i := 179) (by decide +kernel))) rfl
theorem tw_1446 : Cond.methodLink RX12 255 yX12_takesPart ∈ TG := TG_in (seg_6 (List.mem_of_getElem? (i := 180) (by decide +kernel))) rfl
theorem tw_1448 : Cond.instanceMethod yX12_takesPart ∈ TG := TG_in (seg_6 (List.mem_of_getElem? (i := 182) (by decide +kernel))) rfl
theorem tw_1449 : Cond.code yX12_takesPart cX12_takesPart 2 (some .boolean) ∈ TG := TG_in (seg_6 (List.mem_of_getElem? (i := 183) (by decide +kernel))) rfl
theorem tw_1450 : Cond.methodLink RX12 246 yX12_nameOf ∈ TG := TG_in (seg_6 (List.mem_of_getElem? (i := 184) (by decide +kernel))) rfl
theorem tw_1452 : Cond.instanceMethod yX12_nameOf ∈ TG := TG_in (seg_6 (List.mem_of_getElem? (i := 186) (by decide +kernel))) rfl
theorem tw_1453 : Cond.code yX12_nameOf cX12_nameOf 2 (some .int) ∈ TG := TG_in (seg_6 (List.mem_of_getElem? (i := 187) (by decide +kernel))) rfl
theorem tw_1454 : Cond.methodLink RX12 252 yX12_settle ∈ TG := TG_in (seg_6 (List.mem_of_getElem? (i := 188) (by decide +kernel))) rfl
theorem tw_1456 : Cond.instanceMethod yX12_settle ∈ TG := TG_in (seg_6 (List.mem_of_getElem? (i := 190) (by decide +kernel))) rfl
theorem tw_1457 : Cond.code yX12_settle cX12_settle 2 none ∈ TG := TG_in (seg_6 (List.mem_of_getElem? (i := 191) (by decide +kernel))) rfl
theorem tw_1458 : Cond.methodLink RX12 240 yX12_rank ∈ TG := TG_in (seg_6 (List.mem_of_getElem? (i := 192) (by decide +kernel))) rfl
theorem tw_1459 : Cond.static yX12_rank ∈ TG := TG_in (seg_6 (List.mem_of_getElem? (i := 193) (by decide +kernel))) rfl
theorem tw_1460 : Cond.code yX12_rank cX12_rank 1 (some .int) ∈ TG := TG_in (seg_6 (List.mem_of_getElem? (i := 194) (by decide +kernel))) rfl
theorem tw_1461 : Cond.methodLink RX12 259 yX12_notsOpen ∈ TG := TG_in (seg_6 (List.mem_of_getElem? (i := 195) (by decide +kernel))) rfl
theorem tw_1463 : Cond.instanceMethod yX12_notsOpen ∈ TG := TG_in (seg_6 (List.mem_of_getElem? (i := 197) (by decide +kernel))) rfl
theorem tw_1464 : Cond.code yX12_notsOpen cX12_notsOpen 3 (some .int) ∈ TG := TG_in (seg_6 (List.mem_of_getElem? (i := 198) (by decide +kernel))) rfl
theorem tw_1465 : Cond.methodLink RX12 262 yX12_signHere ∈ TG := TG_in (seg_6 (List.mem_of_getElem? (i := 199) (by decide +kernel))) rfl
theorem tw_1467 : Cond.instanceMethod yX12_signHere ∈ TG := TG_in (seg_6 (List.mem_of_getElem? (i := 201) (by decide +kernel))) rfl
theorem tw_1468 : Cond.code yX12_signHere cX12_signHere 1 (some .int) ∈ TG := TG_in (seg_6 (List.mem_of_getElem? (i := 202) (by decide +kernel))) rfl
theorem tw_1469 : Cond.methodLink RL 129 yX12_textTold ∈ TG := TG_in (seg_6 (List.mem_of_getElem? (i := 203) (by decide +kernel))) rfl
theorem tw_1470 : Cond.instanceMethod yX12_textTold ∈ TG := TG_in (seg_6 (List.mem_of_getElem? (i := 204) (by decide +kernel))) rfl
theorem tw_1471 : Cond.selects RX12 yX12_textTold yX12_textTold ∈ TG := TG_in (seg_6 (List.mem_of_getElem? (i := 205) (by decide +kernel))) rfl
theorem tw_1472 : Cond.code yX12_textTold cX12_textTold 3 (some .int) ∈ TG := TG_in (seg_6 (List.mem_of_getElem? (i := 206) (by decide +kernel))) rfl
theorem tw_1473 : Cond.methodLink RL 133 yX12_why ∈ TG := TG_in (seg_6 (List.mem_of_getElem? (i := 207) (by decide +kernel))) rfl
theorem tw_1474 : Cond.instanceMethod yX12_why ∈ TG := TG_in (seg_6 (List.mem_of_getElem? (i := 208) (by decide +kernel))) rfl
theorem tw_1475 : Cond.selects RX12 yX12_why yX12_why ∈ TG := TG_in (seg_6 (List.mem_of_getElem? (i := 209) (by decide +kernel))) rfl
theorem tw_1476 : Cond.code yX12_why cX12_why 3 (some .int) ∈ TG := TG_in (seg_6 (List.mem_of_getElem? (i := 210) (by decide +kernel))) rfl
theorem tw_1477 : Cond.methodLink RL 137 yX12_sheet ∈ TG := TG_in (seg_6 (List.mem_of_getElem? (i := 211) (by decide +kernel))) rfl
theorem tw_1478 : Cond.instanceMethod yX12_sheet ∈ TG := TG_in (seg_6 (List.mem_of_getElem? (i := 212) (by decide +kernel))) rfl
theorem tw_1479 : Cond.selects RX12 yX12_sheet yX12_sheet ∈ TG := TG_in (seg_6 (List.mem_of_getElem? (i := 213) (by decide +kernel))) rfl
theorem tw_1480 : Cond.code yX12_sheet cX12_sheet 5 (some .int) ∈ TG := TG_in (seg_6 (List.mem_of_getElem? (i := 214) (by decide +kernel))) rfl
theorem tw_1481 : Cond.constant RX12 274 (-1000000014) ∈ TG := TG_in (seg_6 (List.mem_of_getElem? (i := 215) (by decide +kernel))) rfl
theorem tw_1482 : Cond.methodLink RL 141 yX12_mark ∈ TG := TG_in (seg_6 (List.mem_of_getElem? (i := 216) (by decide +kernel))) rfl
theorem tw_1483 : Cond.instanceMethod yX12_mark ∈ TG := TG_in (seg_6 (List.mem_of_getElem? (i := 217) (by decide +kernel))) rfl
theorem tw_1484 : Cond.selects RX12 yX12_mark yX12_mark ∈ TG := TG_in (seg_6 (List.mem_of_getElem? (i := 218) (by decide +kernel))) rfl
theorem tw_1485 : Cond.code yX12_mark cX12_mark 4 (some .int) ∈ TG := TG_in (seg_6 (List.mem_of_getElem? (i := 219) (by decide +kernel))) rfl
theorem tw_1486 : Cond.constant RX12 275 (-1000000013) ∈ TG := TG_in (seg_6 (List.mem_of_getElem? (i := 220) (by decide +kernel))) rfl
theorem tw_1487 : Cond.constant RX12 276 (-99999) ∈ TG := TG_in (seg_6 (List.mem_of_getElem? (i := 221) (by decide +kernel))) rfl
theorem tw_1488 : Cond.constant RX12 277 (99999) ∈ TG := TG_in (seg_6 (List.mem_of_getElem? (i := 222) (by decide +kernel))) rfl
theorem tw_1489 : Cond.methodLink RL 145 yX12_pour ∈ TG := TG_in (seg_6 (List.mem_of_getElem? (i := 223) (by decide +kernel))) rfl
theorem tw_1490 : Cond.instanceMethod yX12_pour ∈ TG := TG_in (seg_6 (List.mem_of_getElem? (i := 224) (by decide +kernel))) rfl
theorem tw_1491 : Cond.selects RX12 yX12_pour yX12_pour ∈ TG := TG_in (seg_6 (List.mem_of_getElem? (i := 225) (by decide +kernel))) rfl
theorem tw_1492 : Cond.code yX12_pour cX12_pour 6 (some .int) ∈ TG := TG_in (seg_6 (List.mem_of_getElem? (i := 226) (by decide +kernel))) rfl
theorem tw_1493 : Cond.methodLink RL 149 yX12_reads ∈ TG := TG_in (seg_6 (List.mem_of_getElem? (i := 227) (by decide +kernel))) rfl
theorem tw_1494 : Cond.instanceMethod yX12_reads ∈ TG := TG_in (seg_6 (List.mem_of_getElem? (i := 228) (by decide +kernel))) rfl
theorem tw_1495 : Cond.selects RX12 yX12_reads yX12_reads ∈ TG := TG_in (seg_6 (List.mem_of_getElem? (i := 229) (by decide +kernel))) rfl
theorem tw_1496 : Cond.code yX12_reads cX12_reads 4 (some .int) ∈ TG := TG_in (seg_6 (List.mem_of_getElem? (i := 230) (by decide +kernel))) rfl
theorem tw_1497 : Cond.methodLink RL 154 yX12_copy ∈ TG := TG_in (seg_6 (List.mem_of_getElem? (i := 231) (by decide +kernel))) rfl
theorem tw_1498 : Cond.instanceMethod yX12_copy ∈ TG := TG_in (seg_6 (List.mem_of_getElem? (i := 232) (by decide +kernel))) rfl
theorem tw_1499 : Cond.selects RX12 yX12_copy yX12_copy ∈ TG := TG_in (seg_6 (List.mem_of_getElem? (i := 233) (by decide +kernel))) rfl
theorem tw_1500 : Cond.code yX12_copy cX12_copy 7 (some .int) ∈ TG := TG_in (seg_6 (List.mem_of_getElem? (i := 234) (by decide +kernel))) rfl
theorem tw_1501 : Cond.methodLink RL 158 yX12_lay ∈ TG := TG_in (seg_6 (List.mem_of_getElem? (i := 235) (by decide +kernel))) rfl
theorem tw_1502 : Cond.instanceMethod yX12_lay ∈ TG := TG_in (seg_6 (List.mem_of_getElem? (i := 236) (by decide +kernel))) rfl
theorem tw_1503 : Cond.selects RX12 yX12_lay yX12_lay ∈ TG := TG_in (seg_6 (List.mem_of_getElem? (i := 237) (by decide +kernel))) rfl
theorem tw_1504 : Cond.code yX12_lay cX12_lay 6 (some .int) ∈ TG := TG_in (seg_6 (List.mem_of_getElem? (i := 238) (by decide +kernel))) rfl
theorem tw_1505 : Cond.methodLink RX12 278 yX12_isSlot ∈ TG := TG_in (seg_6 (List.mem_of_getElem? (i := 239) (by decide +kernel))) rfl
theorem tw_1506 : Cond.static yX12_isSlot ∈ TG := TG_in (seg_7 (List.mem_of_getElem? (i := 0) (by decide +kernel))) rfl
theorem tw_1507 : Cond.code yX12_isSlot cX12_isSlot 1 (some .boolean) ∈ TG := TG_in (seg_7 (List.mem_of_getElem? (i := 1) (by decide +kernel))) rfl
theorem tw_1508 : Cond.methodLink RL 162 yX12_ask ∈ TG := TG_in (seg_7 (List.mem_of_getElem? (i := 2) (by decide +kernel))) rfl
theorem tw_1509 : Cond.instanceMethod yX12_ask ∈ TG := TG_in (seg_7 (List.mem_of_getElem? (i := 3) (by decide +kernel))) rfl
theorem tw_1510 : Cond.selects RX12 yX12_ask yX12_ask ∈ TG := TG_in (seg_7 (List.mem_of_getElem? (i := 4) (by decide +kernel))) rfl
theorem tw_1511 : Cond.code yX12_ask cX12_ask 3 (some .int) ∈ TG := TG_in (seg_7 (List.mem_of_getElem? (i := 5) (by decide +kernel))) rfl
theorem tw_1512 : Cond.methodLink RL 166 yX12_item ∈ TG := TG_in (seg_7 (List.mem_of_getElem? (i := 6) (by decide +kernel))) rfl
theorem tw_1513 : Cond.instanceMethod yX12_item ∈ TG := TG_in (seg_7 (List.mem_of_getElem? (i := 7) (by decide +kernel))) rfl
theorem tw_1514 : Cond.selects RX12 yX12_item yX12_item ∈ TG := TG_in (seg_7 (List.mem_of_getElem? (i := 8) (by decide +kernel))) rfl
theorem tw_1515 : Cond.code yX12_item cX12_item 4 (some .int) ∈ TG := TG_in (seg_7 (List.mem_of_getElem? (i := 9) (by decide +kernel))) rfl
theorem tw_1516 : Cond.methodLink RL 170 yX12_rest ∈ TG := TG_in (seg_7 (List.mem_of_getElem? (i := 10) (by decide +kernel))) rfl
theorem tw_1517 : Cond.instanceMethod yX12_rest ∈ TG := TG_in (seg_7 (List.mem_of_getElem? (i := 11) (by decide +kernel))) rfl
theorem tw_1518 : Cond.selects RX12 yX12_rest yX12_rest ∈ TG := TG_in (seg_7 (List.mem_of_getElem? (i := 12) (by decide +kernel))) rfl
theorem tw_1519 : Cond.code yX12_rest cX12_rest 3 (some .int) ∈ TG := TG_in (seg_7 (List.mem_of_getElem? (i := 13) (by decide +kernel))) rfl
theorem tw_1520 : Cond.methodLink RL 174 yX12_tell ∈ TG := TG_in (seg_7 (List.mem_of_getElem? (i := 14) (by decide +kernel))) rfl
theorem tw_1521 : Cond.instanceMethod yX12_tell ∈ TG := TG_in (seg_7 (List.mem_of_getElem? (i := 15) (by decide +kernel))) rfl
theorem tw_1522 : Cond.selects RX12 yX12_tell yX12_tell ∈ TG := TG_in (seg_7 (List.mem_of_getElem? (i := 16) (by decide +kernel))) rfl
theorem tw_1523 : Cond.code yX12_tell cX12_tell 2 (some .int) ∈ TG := TG_in (seg_7 (List.mem_of_getElem? (i := 17) (by decide +kernel))) rfl
theorem tw_1524 : Cond.methodLink RL 178 yX12_check ∈ TG := TG_in (seg_7 (List.mem_of_getElem? (i := 18) (by decide +kernel))) rfl
theorem tw_1525 : Cond.instanceMethod yX12_check ∈ TG := TG_in (seg_7 (List.mem_of_getElem? (i := 19) (by decide +kernel))) rfl
theorem tw_1526 : Cond.selects RX12 yX12_check yX12_check ∈ TG := TG_in (seg_7 (List.mem_of_getElem? (i := 20) (by decide +kernel))) rfl
theorem tw_1527 : Cond.code yX12_check cX12_check 6 (some .int) ∈ TG := TG_in (seg_7 (List.mem_of_getElem? (i := 21) (by decide +kernel))) rfl
theorem tw_1528 : Cond.methodLink RL 182 yX12_keep ∈ TG := TG_in (seg_7 (List.mem_of_getElem? (i := 22) (by decide +kernel))) rfl
theorem tw_1529 : Cond.instanceMethod yX12_keep ∈ TG := TG_in (seg_7 (List.mem_of_getElem? (i := 23) (by decide +kernel))) rfl
theorem tw_1530 : Cond.selects RX12 yX12_keep yX12_keep ∈ TG := TG_in (seg_7 (List.mem_of_getElem? (i := 24) (by decide +kernel))) rfl
theorem tw_1531 : Cond.code yX12_keep cX12_keep 1 (some .int) ∈ TG := TG_in (seg_7 (List.mem_of_getElem? (i := 25) (by decide +kernel))) rfl
theorem tw_1532 : Cond.methodLink RL 186 yX12_back ∈ TG := TG_in (seg_7 (List.mem_of_getElem? (i := 26) (by decide +kernel))) rfl
theorem tw_1533 : Cond.instanceMethod yX12_back ∈ TG := TG_in (seg_7 (List.mem_of_getElem? (i := 27) (by decide +kernel))) rfl
theorem tw_1534 : Cond.selects RX12 yX12_back yX12_back ∈ TG := TG_in (seg_7 (List.mem_of_getElem? (i := 28) (by decide +kernel))) rfl
theorem tw_1535 : Cond.code yX12_back cX12_back 1 (some .int) ∈ TG := TG_in (seg_7 (List.mem_of_getElem? (i := 29) (by decide +kernel))) rfl
theorem tw_1536 : Cond.methodLink RL 190 yX12_count ∈ TG := TG_in (seg_7 (List.mem_of_getElem? (i := 30) (by decide +kernel))) rfl
theorem tw_1537 : Cond.instanceMethod yX12_count ∈ TG := TG_in (seg_7 (List.mem_of_getElem? (i := 31) (by decide +kernel))) rfl
theorem tw_1538 : Cond.selects RX12 yX12_count yX12_count ∈ TG := TG_in (seg_7 (List.mem_of_getElem? (i := 32) (by decide +kernel))) rfl
theorem tw_1539 : Cond.code yX12_count cX12_count 2 (some .int) ∈ TG := TG_in (seg_7 (List.mem_of_getElem? (i := 33) (by decide +kernel))) rfl
theorem tw_1540 : Cond.sameMethod "ArguedFerry$Hired" "ArguedFerry$Hired" "worth" "(I)I" ∈ TG := TG_in (seg_7 (List.mem_of_getElem? (i := 34) (by decide +kernel))) rfl
theorem tw_1541 : Cond.sameMethod "ArguedFerry$Married" "ArguedFerry$Married" "worth" "(I)I" ∈ TG := TG_in (seg_7 (List.mem_of_getElem? (i := 35) (by decide +kernel))) rfl
theorem tw_1542 : Cond.sameMethod "ArguedFerry$Hired" "ArguedFerry$Hired" "isOf" "(I)Z" ∈ TG := TG_in (seg_7 (List.mem_of_getElem? (i := 36) (by decide +kernel))) rfl
theorem tw_1543 : Cond.sameMethod "ArguedFerry$Married" "ArguedFerry$Married" "isOf" "(I)Z" ∈ TG := TG_in (seg_7 (List.mem_of_getElem? (i := 37) (by decide +kernel))) rfl
theorem tw_1544 : Cond.sameMethod "ArguedFerry$Married" "ArguedFerry$Married" "speaks" "(II)I" ∈ TG := TG_in (seg_7 (List.mem_of_getElem? (i := 38) (by decide +kernel))) rfl
theorem tw_1545 : Cond.sameMethod "ArguedFerry$Married" "ArguedFerry$Married" "heats" "(I)I" ∈ TG := TG_in (seg_7 (List.mem_of_getElem? (i := 39) (by decide +kernel))) rfl
theorem tn_1546 : Cond.castable RX2 RX3 ∈ lw_tbl := seg_7 (List.mem_of_getElem? (i := 40) (by decide +kernel))
theorem tn_1547 : Cond.castable RX1 RX3 ∈ lw_tbl := seg_7 (List.mem_of_getElem? (i := 41) (by decide +kernel))
theorem tn_1548 : Cond.castable RX9 RX3 ∈ lw_tbl := seg_7 (List.mem_of_getElem? (i := 42) (by decide +kernel))
theorem tn_1549 : Cond.castable RX6 RX3 ∈ lw_tbl := seg_7 (List.mem_of_getElem? (i := 43) (by decide +kernel))
theorem tn_1550 : Cond.castable RX0 RX3 ∈ lw_tbl := seg_7 (List.mem_of_getElem? (i := 44) (by decide +kernel))
