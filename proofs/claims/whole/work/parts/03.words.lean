theorem kw_0 : Cond.selects "ParagraphWalk$Nodes" ⟨"ParagraphWalk$Nodes", "meets", "(III)Z"⟩ ⟨"ParagraphWalk$Nodes", "meets", "(III)Z"⟩ ∈ TB := tb_of (i := 0) (by decide +kernel) rfl
theorem kw_1 : Cond.selects "ParagraphWalk$Nodes" ⟨"ParagraphWalk$Nodes", "isValue", "(I)Z"⟩ ⟨"ParagraphWalk$Nodes", "isValue", "(I)Z"⟩ ∈ TB := tb_of (i := 1) (by decide +kernel) rfl
theorem kw_2 : Cond.selects "ParagraphWalk$Nodes" ⟨"ParagraphWalk$Nodes", "isTargetSo", "(II)Z"⟩ ⟨"ParagraphWalk$Nodes", "isTargetSo", "(II)Z"⟩ ∈ TB := tb_of (i := 2) (by decide +kernel) rfl
theorem kw_3 : Cond.selects "ParagraphWalk$Nodes" ⟨"ParagraphWalk$Nodes", "sizeWith", "(III)I"⟩ ⟨"ParagraphWalk$Nodes", "sizeWith", "(III)I"⟩ ∈ TB := tb_of (i := 3) (by decide +kernel) rfl
theorem kw_4 : Cond.selects "ParagraphWalk$StackWalk" ⟨"ParagraphWalk$StackWalk", "enterNextParagraph", "()V"⟩ ⟨"ParagraphWalk$StackWalk", "enterNextParagraph", "()V"⟩ ∈ TB := tb_of (i := 4) (by decide +kernel) rfl
theorem kw_5 : Cond.selects "ParagraphWalk$StackWalk" ⟨"ParagraphWalk$StackWalk", "push", "(I)V"⟩ ⟨"ParagraphWalk$StackWalk", "push", "(I)V"⟩ ∈ TB := tb_of (i := 5) (by decide +kernel) rfl
theorem kw_6 : Cond.selects "ParagraphWalk$StackWalk" ⟨"ParagraphWalk$StackWalk", "pop", "()I"⟩ ⟨"ParagraphWalk$StackWalk", "pop", "()I"⟩ ∈ TB := tb_of (i := 6) (by decide +kernel) rfl
theorem kw_7 : Cond.selects "ParagraphWalk$StackWalk" ⟨"ParagraphWalk$StackWalk", "takeUp", "(I)V"⟩ ⟨"ParagraphWalk$StackWalk", "takeUp", "(I)V"⟩ ∈ TB := tb_of (i := 7) (by decide +kernel) rfl
theorem kw_8 : Cond.selects "ParagraphWalk$Stepper" ⟨"ParagraphWalk$Stepper", "reckon", "(II)J"⟩ ⟨"ParagraphWalk$Stepper", "reckon", "(II)J"⟩ ∈ TB := tb_of (i := 8) (by decide +kernel) rfl
theorem kw_9 : Cond.selects "ParagraphWalk$Stepper" ⟨"ParagraphWalk$Stepper", "join", "(IJJ)J"⟩ ⟨"ParagraphWalk$Stepper", "join", "(IJJ)J"⟩ ∈ TB := tb_of (i := 9) (by decide +kernel) rfl
theorem kw_10 : Cond.selects "ParagraphWalk$Stepper" ⟨"ParagraphWalk$Stepper", "firstFitting", "(IJ)I"⟩ ⟨"ParagraphWalk$Stepper", "firstFitting", "(IJ)I"⟩ ∈ TB := tb_of (i := 10) (by decide +kernel) rfl
theorem kw_11 : Cond.selects "ParagraphWalk$Stepper" ⟨"ParagraphWalk$Stepper", "fits", "(IJ)Z"⟩ ⟨"ParagraphWalk$Stepper", "fits", "(IJ)Z"⟩ ∈ TB := tb_of (i := 11) (by decide +kernel) rfl
theorem kw_12 : Cond.selects "ParagraphWalk$Stepper" ⟨"ParagraphWalk$Stepper", "act", "(IIJI)I"⟩ ⟨"ParagraphWalk$Stepper", "act", "(IIJI)I"⟩ ∈ TB := tb_of (i := 12) (by decide +kernel) rfl
theorem kw_13 : Cond.selects "ParagraphWalk$Stepper" ⟨"ParagraphWalk$Stepper", "goTo", "(I)I"⟩ ⟨"ParagraphWalk$Stepper", "goTo", "(I)I"⟩ ∈ TB := tb_of (i := 13) (by decide +kernel) rfl
theorem kw_14 : Cond.selects "ParagraphWalk$Stepper" ⟨"ParagraphWalk$Stepper", "leaveBehind", "(I)I"⟩ ⟨"ParagraphWalk$Stepper", "leaveBehind", "(I)I"⟩ ∈ TB := tb_of (i := 14) (by decide +kernel) rfl
theorem kw_15 : Cond.selects "ParagraphWalk$Stepper" ⟨"ParagraphWalk$Stepper", "takeAnswer", "(I)I"⟩ ⟨"ParagraphWalk$Stepper", "takeAnswer", "(I)I"⟩ ∈ TB := tb_of (i := 15) (by decide +kernel) rfl
theorem kw_16 : Cond.selects "ParagraphWalk$Stepper" ⟨"ParagraphWalk$Stepper", "byAnswer", "(III)I"⟩ ⟨"ParagraphWalk$Stepper", "byAnswer", "(III)I"⟩ ∈ TB := tb_of (i := 16) (by decide +kernel) rfl
theorem kw_17 : Cond.selects "ParagraphWalk$StackWalk" ⟨"ParagraphWalk$StackWalk", "follow", "(II)V"⟩ ⟨"ParagraphWalk$StackWalk", "follow", "(II)V"⟩ ∈ TB := tb_of (i := 17) (by decide +kernel) rfl
theorem kw_18 : Cond.selects "ParagraphWalk$StackWalk" ⟨"ParagraphWalk$StackWalk", "dropToSentenceEnd", "()V"⟩ ⟨"ParagraphWalk$StackWalk", "dropToSentenceEnd", "()V"⟩ ∈ TB := tb_of (i := 18) (by decide +kernel) rfl
theorem kw_19 : Cond.selects "ParagraphWalk$NodeWalk" ⟨"ParagraphWalk$NodeWalk", "goInto", "(III)I"⟩ ⟨"ParagraphWalk$NodeWalk", "goInto", "(III)I"⟩ ∈ TB := tb_of (i := 19) (by decide +kernel) rfl
theorem kw_20 : Cond.selects "ParagraphWalk" ⟨"ParagraphWalk", "allWaiting", "()I"⟩ ⟨"ParagraphWalk", "allWaiting", "()I"⟩ ∈ TB := tb_of (i := 20) (by decide +kernel) rfl
theorem kw_21 : Cond.selects "java/lang/Throwable" ⟨"java/lang/Throwable", "fillInStackTrace", "(I)Ljava/lang/Throwable;"⟩ ⟨"java/lang/Throwable", "fillInStackTrace", "(I)Ljava/lang/Throwable;"⟩ ∈ TB := tb_of (i := 21) (by decide +kernel) rfl
theorem kw_22 : Cond.selects "ParagraphWalkModel" ⟨"ParagraphWalkModel", "needs", "(III)Z"⟩ ⟨"ParagraphWalkModel", "needs", "(III)Z"⟩ ∈ TB := tb_of (i := 22) (by decide +kernel) rfl
theorem kw_23 : Cond.selects "ParagraphWalkModel" ⟨"ParagraphWalkModel", "isCell", "(I)Z"⟩ ⟨"ParagraphWalkModel", "isCell", "(I)Z"⟩ ∈ TB := tb_of (i := 23) (by decide +kernel) rfl
theorem kw_24 : Cond.selects "ParagraphWalkModel" ⟨"ParagraphWalkModel", "isValue", "(I)Z"⟩ ⟨"ParagraphWalkModel", "isValue", "(I)Z"⟩ ∈ TB := tb_of (i := 24) (by decide +kernel) rfl
theorem kw_25 : Cond.selects "ParagraphWalkModel" ⟨"ParagraphWalkModel", "isStatement", "(I)Z"⟩ ⟨"ParagraphWalkModel", "isStatement", "(I)Z"⟩ ∈ TB := tb_of (i := 25) (by decide +kernel) rfl
theorem kw_26 : Cond.selects "ParagraphWalkModel" ⟨"ParagraphWalkModel", "isKind", "(II)Z"⟩ ⟨"ParagraphWalkModel", "isKind", "(II)Z"⟩ ∈ TB := tb_of (i := 26) (by decide +kernel) rfl
theorem kw_27 : Cond.selects "ParagraphWalkModel" ⟨"ParagraphWalkModel", "walk", "(J)I"⟩ ⟨"ParagraphWalkModel", "walk", "(J)I"⟩ ∈ TB := tb_of (i := 27) (by decide +kernel) rfl
theorem kw_28 : Cond.selects "ParagraphWalkModel" ⟨"ParagraphWalkModel", "over", "(J)I"⟩ ⟨"ParagraphWalkModel", "over", "(J)I"⟩ ∈ TB := tb_of (i := 28) (by decide +kernel) rfl
theorem kw_29 : Cond.selects "ParagraphWalkModel" ⟨"ParagraphWalkModel", "push", "(I)V"⟩ ⟨"ParagraphWalkModel", "push", "(I)V"⟩ ∈ TB := tb_of (i := 29) (by decide +kernel) rfl
theorem kw_30 : Cond.selects "ParagraphWalkModel" ⟨"ParagraphWalkModel", "act", "(I)I"⟩ ⟨"ParagraphWalkModel", "act", "(I)I"⟩ ∈ TB := tb_of (i := 30) (by decide +kernel) rfl
theorem kw_31 : Cond.selects "ParagraphWalkModel" ⟨"ParagraphWalkModel", "value", "(I)J"⟩ ⟨"ParagraphWalkModel", "value", "(I)J"⟩ ∈ TB := tb_of (i := 31) (by decide +kernel) rfl
theorem kw_32 : Cond.selects "ParagraphWalkModel" ⟨"ParagraphWalkModel", "done", "(IJJ)J"⟩ ⟨"ParagraphWalkModel", "done", "(IJJ)J"⟩ ∈ TB := tb_of (i := 32) (by decide +kernel) rfl
theorem kw_33 : Cond.selects "ParagraphWalkModel" ⟨"ParagraphWalkModel", "fitting", "(IJ)I"⟩ ⟨"ParagraphWalkModel", "fitting", "(IJ)I"⟩ ∈ TB := tb_of (i := 33) (by decide +kernel) rfl
theorem kw_34 : Cond.selects "ParagraphWalkModel" ⟨"ParagraphWalkModel", "raise", "(I)I"⟩ ⟨"ParagraphWalkModel", "raise", "(I)I"⟩ ∈ TB := tb_of (i := 34) (by decide +kernel) rfl
theorem kw_35 : Cond.selects "ParagraphWalkModel" ⟨"ParagraphWalkModel", "goTo", "(J)V"⟩ ⟨"ParagraphWalkModel", "goTo", "(J)V"⟩ ∈ TB := tb_of (i := 35) (by decide +kernel) rfl
theorem kw_36 : Cond.selects "ParagraphWalkModel" ⟨"ParagraphWalkModel", "answered", "(I)I"⟩ ⟨"ParagraphWalkModel", "answered", "(I)I"⟩ ∈ TB := tb_of (i := 36) (by decide +kernel) rfl
theorem kw_37 : Cond.initialized "ParagraphWalkLaw" ∈ TB := tb_of (i := 37) (by decide +kernel) rfl
theorem kw_38 : Cond.initialized "ParagraphWalk" ∈ TB := tb_of (i := 38) (by decide +kernel) rfl
theorem kw_39 : Cond.initialized "java/lang/Math" ∈ TB := tb_of (i := 39) (by decide +kernel) rfl
theorem kw_40 : Cond.initialized "ParagraphWalk$Nodes" ∈ TB := tb_of (i := 40) (by decide +kernel) rfl
theorem kw_41 : Cond.initialized "ParagraphWalk$Paragraphs" ∈ TB := tb_of (i := 41) (by decide +kernel) rfl
theorem kw_42 : Cond.initialized "ParagraphWalk$Answers" ∈ TB := tb_of (i := 42) (by decide +kernel) rfl
theorem kw_43 : Cond.initialized "ParagraphWalk$Scene" ∈ TB := tb_of (i := 43) (by decide +kernel) rfl
theorem kw_44 : Cond.initialized "ParagraphWalk$Journey" ∈ TB := tb_of (i := 44) (by decide +kernel) rfl
theorem kw_45 : Cond.initialized "ParagraphWalk$StackWalk" ∈ TB := tb_of (i := 45) (by decide +kernel) rfl
theorem kw_46 : Cond.initialized "ParagraphWalk$Stepper" ∈ TB := tb_of (i := 46) (by decide +kernel) rfl
theorem kw_47 : Cond.initialized "ParagraphWalk$NodeWalk" ∈ TB := tb_of (i := 47) (by decide +kernel) rfl
theorem kw_48 : Cond.initialized "ParagraphWalkModel" ∈ TB := tb_of (i := 48) (by decide +kernel) rfl
theorem kw_49 : Cond.initialized "java/lang/Throwable" ∈ TB := tb_of (i := 49) (by decide +kernel) rfl
theorem kw_50 : Cond.initialized "java/lang/Exception" ∈ TB := tb_of (i := 50) (by decide +kernel) rfl
theorem kw_51 : Cond.initialized "java/lang/RuntimeException" ∈ TB := tb_of (i := 51) (by decide +kernel) rfl
theorem kw_52 : Cond.initialized "java/lang/IllegalArgumentException" ∈ TB := tb_of (i := 52) (by decide +kernel) rfl
theorem kw_53 : Cond.initialized "java/lang/System" ∈ TB := tb_of (i := 53) (by decide +kernel) rfl
theorem kw_54 : Cond.classLink "ParagraphWalkLaw" 8 "ParagraphWalk" ∈ TB := tb_of (i := 54) (by decide +kernel) rfl
theorem kw_55 : Cond.instantiable "ParagraphWalk" 13 ∈ TB := tb_of (i := 55) (by decide +kernel) rfl
theorem kw_56 : Cond.methodLink "ParagraphWalkLaw" 21 ⟨"ParagraphWalk", "<init>", "(J)V"⟩ ∈ TB := tb_of (i := 56) (by decide +kernel) rfl
theorem kw_57 : Cond.instanceMethod ⟨"ParagraphWalk", "<init>", "(J)V"⟩ ∈ TB := tb_of (i := 57) (by decide +kernel) rfl
theorem kw_58 : Cond.code ⟨"ParagraphWalk", "<init>", "(J)V"⟩ prog_1_method_1_code 3 none ∈ TB := tb_of (i := 58) (by decide +kernel) rfl
theorem kw_59 : Cond.methodLink "ParagraphWalk" 3 ⟨"java/lang/Object", "<init>", "()V"⟩ ∈ TB := tb_of (i := 59) (by decide +kernel) rfl
theorem kw_60 : Cond.instanceMethod ⟨"java/lang/Object", "<init>", "()V"⟩ ∈ TB := tb_of (i := 60) (by decide +kernel) rfl
theorem kw_61 : Cond.code ⟨"java/lang/Object", "<init>", "()V"⟩ object_method_1_code 1 none ∈ TB := tb_of (i := 61) (by decide +kernel) rfl
theorem kw_62 : Cond.methodLink "ParagraphWalk" 9 ⟨"ParagraphWalk", "heldSteps", "(J)I"⟩ ∈ TB := tb_of (i := 62) (by decide +kernel) rfl
theorem kw_63 : Cond.static ⟨"ParagraphWalk", "heldSteps", "(J)I"⟩ ∈ TB := tb_of (i := 63) (by decide +kernel) rfl
theorem kw_64 : Cond.code ⟨"ParagraphWalk", "heldSteps", "(J)I"⟩ prog_1_method_16_code 2 (some .int) ∈ TB := tb_of (i := 64) (by decide +kernel) rfl
theorem kw_65 : Cond.constantLong "ParagraphWalk" 189 1000 ∈ TB := tb_of (i := 65) (by decide +kernel) rfl
theorem kw_66 : Cond.methodLink "ParagraphWalk" 191 ⟨"java/lang/Math", "min", "(JJ)J"⟩ ∈ TB := tb_of (i := 66) (by decide +kernel) rfl
theorem kw_67 : Cond.static ⟨"java/lang/Math", "min", "(JJ)J"⟩ ∈ TB := tb_of (i := 67) (by decide +kernel) rfl
theorem kw_68 : Cond.code ⟨"java/lang/Math", "min", "(JJ)J"⟩ prog_14_method_70_code 4 (some .long) ∈ TB := tb_of (i := 68) (by decide +kernel) rfl
theorem kw_69 : Cond.methodLink "ParagraphWalk" 197 ⟨"java/lang/Math", "max", "(JJ)J"⟩ ∈ TB := tb_of (i := 69) (by decide +kernel) rfl
theorem kw_70 : Cond.static ⟨"java/lang/Math", "max", "(JJ)J"⟩ ∈ TB := tb_of (i := 70) (by decide +kernel) rfl
theorem kw_71 : Cond.code ⟨"java/lang/Math", "max", "(JJ)J"⟩ prog_14_method_66_code 4 (some .long) ∈ TB := tb_of (i := 71) (by decide +kernel) rfl
theorem kw_72 : Cond.classLink "ParagraphWalk" 17 "ParagraphWalk$Nodes" ∈ TB := tb_of (i := 72) (by decide +kernel) rfl
theorem kw_73 : Cond.instantiable "ParagraphWalk$Nodes" 5 ∈ TB := tb_of (i := 73) (by decide +kernel) rfl
theorem kw_75 : Cond.instanceMethod ⟨"ParagraphWalk$Nodes", "<init>", "()V"⟩ ∈ TB := tb_of (i := 75) (by decide +kernel) rfl
theorem kw_76 : Cond.code ⟨"ParagraphWalk$Nodes", "<init>", "()V"⟩ prog_5_method_1_code 1 none ∈ TB := tb_of (i := 76) (by decide +kernel) rfl
theorem kw_77 : Cond.methodLink "ParagraphWalk$Nodes" 3 ⟨"java/lang/Object", "<init>", "()V"⟩ ∈ TB := tb_of (i := 77) (by decide +kernel) rfl
theorem kw_78 : Cond.fieldLink "ParagraphWalk$Nodes" 9 "ParagraphWalk$Nodes" "kinds" "[I" ∈ TB := tb_of (i := 78) (by decide +kernel) rfl
theorem kw_79 : Cond.fieldLink "ParagraphWalk$Nodes" 15 "ParagraphWalk$Nodes" "as" "[I" ∈ TB := tb_of (i := 79) (by decide +kernel) rfl
theorem kw_80 : Cond.fieldLink "ParagraphWalk$Nodes" 18 "ParagraphWalk$Nodes" "bs" "[I" ∈ TB := tb_of (i := 80) (by decide +kernel) rfl
theorem kw_81 : Cond.fieldLink "ParagraphWalk$Nodes" 21 "ParagraphWalk$Nodes" "sizes" "[I" ∈ TB := tb_of (i := 81) (by decide +kernel) rfl
theorem kw_82 : Cond.fieldLink "ParagraphWalk$Nodes" 42 "ParagraphWalk$Nodes" "many" "I" ∈ TB := tb_of (i := 82) (by decide +kernel) rfl
theorem kw_96 : Cond.classLink "ParagraphWalk" 24 "ParagraphWalk$Paragraphs" ∈ TB := tb_of (i := 96) (by decide +kernel) rfl
theorem kw_97 : Cond.instantiable "ParagraphWalk$Paragraphs" 3 ∈ TB := tb_of (i := 97) (by decide +kernel) rfl
theorem kw_99 : Cond.instanceMethod ⟨"ParagraphWalk$Paragraphs", "<init>", "()V"⟩ ∈ TB := tb_of (i := 99) (by decide +kernel) rfl
theorem kw_100 : Cond.code ⟨"ParagraphWalk$Paragraphs", "<init>", "()V"⟩ prog_6_method_1_code 1 none ∈ TB := tb_of (i := 100) (by decide +kernel) rfl
theorem kw_101 : Cond.methodLink "ParagraphWalk$Paragraphs" 3 ⟨"java/lang/Object", "<init>", "()V"⟩ ∈ TB := tb_of (i := 101) (by decide +kernel) rfl
theorem kw_102 : Cond.fieldLink "ParagraphWalk$Paragraphs" 9 "ParagraphWalk$Paragraphs" "roots" "[I" ∈ TB := tb_of (i := 102) (by decide +kernel) rfl
theorem kw_103 : Cond.fieldLink "ParagraphWalk$Paragraphs" 15 "ParagraphWalk$Paragraphs" "sections" "[I" ∈ TB := tb_of (i := 103) (by decide +kernel) rfl
theorem kw_104 : Cond.fieldLink "ParagraphWalk$Paragraphs" 18 "ParagraphWalk$Paragraphs" "many" "I" ∈ TB := tb_of (i := 104) (by decide +kernel) rfl
theorem kw_113 : Cond.classLink "ParagraphWalk" 31 "ParagraphWalk$Answers" ∈ TB := tb_of (i := 113) (by decide +kernel) rfl
theorem kw_114 : Cond.instantiable "ParagraphWalk$Answers" 2 ∈ TB := tb_of (i := 114) (by decide +kernel) rfl
theorem kw_116 : Cond.instanceMethod ⟨"ParagraphWalk$Answers", "<init>", "()V"⟩ ∈ TB := tb_of (i := 116) (by decide +kernel) rfl
theorem kw_117 : Cond.code ⟨"ParagraphWalk$Answers", "<init>", "()V"⟩ prog_2_method_1_code 1 none ∈ TB := tb_of (i := 117) (by decide +kernel) rfl
theorem kw_118 : Cond.methodLink "ParagraphWalk$Answers" 3 ⟨"java/lang/Object", "<init>", "()V"⟩ ∈ TB := tb_of (i := 118) (by decide +kernel) rfl
theorem kw_119 : Cond.fieldLink "ParagraphWalk$Answers" 9 "ParagraphWalk$Answers" "ring" "[B" ∈ TB := tb_of (i := 119) (by decide +kernel) rfl
theorem kw_120 : Cond.fieldLink "ParagraphWalk$Answers" 15 "ParagraphWalk$Answers" "told" "[I" ∈ TB := tb_of (i := 120) (by decide +kernel) rfl
theorem kw_127 : Cond.classLink "ParagraphWalk" 38 "ParagraphWalk$Scene" ∈ TB := tb_of (i := 127) (by decide +kernel) rfl
theorem kw_128 : Cond.instantiable "ParagraphWalk$Scene" 4 ∈ TB := tb_of (i := 128) (by decide +kernel) rfl
theorem kw_130 : Cond.instanceMethod ⟨"ParagraphWalk$Scene", "<init>", "()V"⟩ ∈ TB := tb_of (i := 130) (by decide +kernel) rfl
theorem kw_131 : Cond.code ⟨"ParagraphWalk$Scene", "<init>", "()V"⟩ prog_7_method_1_code 1 none ∈ TB := tb_of (i := 131) (by decide +kernel) rfl
theorem kw_132 : Cond.methodLink "ParagraphWalk$Scene" 3 ⟨"java/lang/Object", "<init>", "()V"⟩ ∈ TB := tb_of (i := 132) (by decide +kernel) rfl
theorem kw_133 : Cond.fieldLink "ParagraphWalk$Scene" 9 "ParagraphWalk$Scene" "widths" "[I" ∈ TB := tb_of (i := 133) (by decide +kernel) rfl
theorem kw_134 : Cond.fieldLink "ParagraphWalk$Scene" 15 "ParagraphWalk$Scene" "values" "[J" ∈ TB := tb_of (i := 134) (by decide +kernel) rfl
theorem kw_135 : Cond.fieldLink "ParagraphWalk$Scene" 19 "ParagraphWalk$Scene" "taken" "[I" ∈ TB := tb_of (i := 135) (by decide +kernel) rfl
theorem kw_136 : Cond.fieldLink "ParagraphWalk$Scene" 22 "ParagraphWalk$Scene" "cells" "I" ∈ TB := tb_of (i := 136) (by decide +kernel) rfl
theorem kw_148 : Cond.classLink "ParagraphWalk" 45 "ParagraphWalk$Journey" ∈ TB := tb_of (i := 148) (by decide +kernel) rfl
theorem kw_149 : Cond.instantiable "ParagraphWalk$Journey" 7 ∈ TB := tb_of (i := 149) (by decide +kernel) rfl
theorem kw_151 : Cond.instanceMethod ⟨"ParagraphWalk$Journey", "<init>", "()V"⟩ ∈ TB := tb_of (i := 151) (by decide +kernel) rfl
theorem kw_152 : Cond.code ⟨"ParagraphWalk$Journey", "<init>", "()V"⟩ prog_3_method_1_code 1 none ∈ TB := tb_of (i := 152) (by decide +kernel) rfl
theorem kw_153 : Cond.methodLink "ParagraphWalk$Journey" 3 ⟨"java/lang/Object", "<init>", "()V"⟩ ∈ TB := tb_of (i := 153) (by decide +kernel) rfl
theorem kw_154 : Cond.fieldLink "ParagraphWalk$Journey" 9 "ParagraphWalk$Journey" "begun" "[I" ∈ TB := tb_of (i := 154) (by decide +kernel) rfl
theorem kw_155 : Cond.fieldLink "ParagraphWalk$Journey" 19 "ParagraphWalk$Journey" "steps" "I" ∈ TB := tb_of (i := 155) (by decide +kernel) rfl
theorem kw_157 : Cond.fieldLink "ParagraphWalk$Journey" 29 "ParagraphWalk$Journey" "left" "I" ∈ TB := tb_of (i := 157) (by decide +kernel) rfl
theorem kw_158 : Cond.fieldLink "ParagraphWalk$Journey" 15 "ParagraphWalk$Journey" "end" "I" ∈ TB := tb_of (i := 158) (by decide +kernel) rfl
theorem kw_162 : Cond.fieldLink "ParagraphWalk$Journey" 32 "ParagraphWalk$Journey" "place" "I" ∈ TB := tb_of (i := 162) (by decide +kernel) rfl
theorem kw_164 : Cond.fieldLink "ParagraphWalk$Journey" 22 "ParagraphWalk$Journey" "raised" "I" ∈ TB := tb_of (i := 164) (by decide +kernel) rfl
theorem kw_166 : Cond.fieldLink "ParagraphWalk$Journey" 35 "ParagraphWalk$Journey" "result" "J" ∈ TB := tb_of (i := 166) (by decide +kernel) rfl
theorem kw_183 : Cond.classLink "ParagraphWalk" 52 "ParagraphWalk$StackWalk" ∈ TB := tb_of (i := 183) (by decide +kernel) rfl
theorem kw_184 : Cond.instantiable "ParagraphWalk$StackWalk" 7 ∈ TB := tb_of (i := 184) (by decide +kernel) rfl
theorem kw_185 : Cond.classLink "ParagraphWalk" 54 "ParagraphWalk$Stepper" ∈ TB := tb_of (i := 185) (by decide +kernel) rfl
theorem kw_186 : Cond.instantiable "ParagraphWalk$Stepper" 7 ∈ TB := tb_of (i := 186) (by decide +kernel) rfl
theorem kw_187 : Cond.methodLink "ParagraphWalk" 56 ⟨"ParagraphWalk$Stepper", "<init>", "(LParagraphWalk$Nodes;LParagraphWalk$Paragraphs;LParagraphWalk$Answers;LParagraphWalk$Scene;LParagraphWalk$Journey;)V"⟩ ∈ TB := tb_of (i := 187) (by decide +kernel) rfl
theorem kw_188 : Cond.instanceMethod ⟨"ParagraphWalk$Stepper", "<init>", "(LParagraphWalk$Nodes;LParagraphWalk$Paragraphs;LParagraphWalk$Answers;LParagraphWalk$Scene;LParagraphWalk$Journey;)V"⟩ ∈ TB := tb_of (i := 188) (by decide +kernel) rfl
theorem kw_189 : Cond.code ⟨"ParagraphWalk$Stepper", "<init>", "(LParagraphWalk$Nodes;LParagraphWalk$Paragraphs;LParagraphWalk$Answers;LParagraphWalk$Scene;LParagraphWalk$Journey;)V"⟩ prog_9_method_1_code 6 none ∈ TB := tb_of (i := 189) (by decide +kernel) rfl
theorem kw_190 : Cond.methodLink "ParagraphWalk$Stepper" 3 ⟨"java/lang/Object", "<init>", "()V"⟩ ∈ TB := tb_of (i := 190) (by decide +kernel) rfl
theorem kw_191 : Cond.fieldLink "ParagraphWalk$Stepper" 9 "ParagraphWalk$Stepper" "nodes" "LParagraphWalk$Nodes;" ∈ TB := tb_of (i := 191) (by decide +kernel) rfl
theorem kw_192 : Cond.fieldLink "ParagraphWalk$Stepper" 15 "ParagraphWalk$Stepper" "paragraphs" "LParagraphWalk$Paragraphs;" ∈ TB := tb_of (i := 192) (by decide +kernel) rfl
theorem kw_193 : Cond.fieldLink "ParagraphWalk$Stepper" 19 "ParagraphWalk$Stepper" "answers" "LParagraphWalk$Answers;" ∈ TB := tb_of (i := 193) (by decide +kernel) rfl
theorem kw_194 : Cond.fieldLink "ParagraphWalk$Stepper" 23 "ParagraphWalk$Stepper" "scene" "LParagraphWalk$Scene;" ∈ TB := tb_of (i := 194) (by decide +kernel) rfl
theorem kw_195 : Cond.fieldLink "ParagraphWalk$Stepper" 27 "ParagraphWalk$Stepper" "journey" "LParagraphWalk$Journey;" ∈ TB := tb_of (i := 195) (by decide +kernel) rfl
theorem kw_196 : Cond.fieldLink "ParagraphWalk$Stepper" 37 "ParagraphWalk$Stepper" "dividedByZero" "Z" ∈ TB := tb_of (i := 196) (by decide +kernel) rfl
theorem kw_198 : Cond.fieldLink "ParagraphWalk$Stepper" 105 "ParagraphWalk$Stepper" "target" "I" ∈ TB := tb_of (i := 198) (by decide +kernel) rfl
theorem kw_215 : Cond.methodLink "ParagraphWalk" 59 ⟨"ParagraphWalk$StackWalk", "<init>", "(LParagraphWalk$Nodes;LParagraphWalk$Paragraphs;LParagraphWalk$Journey;LParagraphWalk$Stepper;)V"⟩ ∈ TB := tb_of (i := 215) (by decide +kernel) rfl
theorem kw_216 : Cond.instanceMethod ⟨"ParagraphWalk$StackWalk", "<init>", "(LParagraphWalk$Nodes;LParagraphWalk$Paragraphs;LParagraphWalk$Journey;LParagraphWalk$Stepper;)V"⟩ ∈ TB := tb_of (i := 216) (by decide +kernel) rfl
theorem kw_217 : Cond.code ⟨"ParagraphWalk$StackWalk", "<init>", "(LParagraphWalk$Nodes;LParagraphWalk$Paragraphs;LParagraphWalk$Journey;LParagraphWalk$Stepper;)V"⟩ prog_8_method_1_code 5 none ∈ TB := tb_of (i := 217) (by decide +kernel) rfl
theorem kw_218 : Cond.methodLink "ParagraphWalk$StackWalk" 3 ⟨"java/lang/Object", "<init>", "()V"⟩ ∈ TB := tb_of (i := 218) (by decide +kernel) rfl
theorem kw_219 : Cond.fieldLink "ParagraphWalk$StackWalk" 15 "ParagraphWalk$StackWalk" "nodes" "LParagraphWalk$Nodes;" ∈ TB := tb_of (i := 219) (by decide +kernel) rfl
theorem kw_220 : Cond.fieldLink "ParagraphWalk$StackWalk" 19 "ParagraphWalk$StackWalk" "paragraphs" "LParagraphWalk$Paragraphs;" ∈ TB := tb_of (i := 220) (by decide +kernel) rfl
theorem kw_221 : Cond.fieldLink "ParagraphWalk$StackWalk" 23 "ParagraphWalk$StackWalk" "journey" "LParagraphWalk$Journey;" ∈ TB := tb_of (i := 221) (by decide +kernel) rfl
theorem kw_222 : Cond.fieldLink "ParagraphWalk$StackWalk" 27 "ParagraphWalk$StackWalk" "stepper" "LParagraphWalk$Stepper;" ∈ TB := tb_of (i := 222) (by decide +kernel) rfl
theorem kw_223 : Cond.fieldLink "ParagraphWalk$StackWalk" 9 "ParagraphWalk$StackWalk" "stack" "[I" ∈ TB := tb_of (i := 223) (by decide +kernel) rfl
theorem kw_224 : Cond.fieldLink "ParagraphWalk$StackWalk" 31 "ParagraphWalk$StackWalk" "depth" "I" ∈ TB := tb_of (i := 224) (by decide +kernel) rfl
theorem kw_225 : Cond.fieldLink "ParagraphWalk$StackWalk" 35 "ParagraphWalk$StackWalk" "current" "I" ∈ TB := tb_of (i := 225) (by decide +kernel) rfl
theorem kw_241 : Cond.classLink "ParagraphWalk" 81 "ParagraphWalk$NodeWalk" ∈ TB := tb_of (i := 241) (by decide +kernel) rfl
theorem kw_242 : Cond.instantiable "ParagraphWalk$NodeWalk" 4 ∈ TB := tb_of (i := 242) (by decide +kernel) rfl
theorem kw_243 : Cond.methodLink "ParagraphWalk" 83 ⟨"ParagraphWalk$NodeWalk", "<init>", "(LParagraphWalk$Nodes;LParagraphWalk$Paragraphs;LParagraphWalk$Journey;LParagraphWalk$Stepper;)V"⟩ ∈ TB := tb_of (i := 243) (by decide +kernel) rfl
theorem kw_244 : Cond.instanceMethod ⟨"ParagraphWalk$NodeWalk", "<init>", "(LParagraphWalk$Nodes;LParagraphWalk$Paragraphs;LParagraphWalk$Journey;LParagraphWalk$Stepper;)V"⟩ ∈ TB := tb_of (i := 244) (by decide +kernel) rfl
theorem kw_245 : Cond.code ⟨"ParagraphWalk$NodeWalk", "<init>", "(LParagraphWalk$Nodes;LParagraphWalk$Paragraphs;LParagraphWalk$Journey;LParagraphWalk$Stepper;)V"⟩ prog_4_method_1_code 5 none ∈ TB := tb_of (i := 245) (by decide +kernel) rfl
theorem kw_246 : Cond.methodLink "ParagraphWalk$NodeWalk" 3 ⟨"java/lang/Object", "<init>", "()V"⟩ ∈ TB := tb_of (i := 246) (by decide +kernel) rfl
theorem kw_247 : Cond.fieldLink "ParagraphWalk$NodeWalk" 9 "ParagraphWalk$NodeWalk" "nodes" "LParagraphWalk$Nodes;" ∈ TB := tb_of (i := 247) (by decide +kernel) rfl
theorem kw_248 : Cond.fieldLink "ParagraphWalk$NodeWalk" 15 "ParagraphWalk$NodeWalk" "paragraphs" "LParagraphWalk$Paragraphs;" ∈ TB := tb_of (i := 248) (by decide +kernel) rfl
theorem kw_249 : Cond.fieldLink "ParagraphWalk$NodeWalk" 19 "ParagraphWalk$NodeWalk" "journey" "LParagraphWalk$Journey;" ∈ TB := tb_of (i := 249) (by decide +kernel) rfl
theorem kw_250 : Cond.fieldLink "ParagraphWalk$NodeWalk" 23 "ParagraphWalk$NodeWalk" "stepper" "LParagraphWalk$Stepper;" ∈ TB := tb_of (i := 250) (by decide +kernel) rfl
theorem kw_260 : Cond.fieldLink "ParagraphWalk" 13 "ParagraphWalk" "steps" "I" ∈ TB := tb_of (i := 260) (by decide +kernel) rfl
theorem kw_261 : Cond.fieldLink "ParagraphWalk" 20 "ParagraphWalk" "nodes" "LParagraphWalk$Nodes;" ∈ TB := tb_of (i := 261) (by decide +kernel) rfl
theorem kw_262 : Cond.fieldLink "ParagraphWalk" 27 "ParagraphWalk" "paragraphs" "LParagraphWalk$Paragraphs;" ∈ TB := tb_of (i := 262) (by decide +kernel) rfl
theorem kw_263 : Cond.fieldLink "ParagraphWalk" 34 "ParagraphWalk" "answers" "LParagraphWalk$Answers;" ∈ TB := tb_of (i := 263) (by decide +kernel) rfl
theorem kw_264 : Cond.fieldLink "ParagraphWalk" 41 "ParagraphWalk" "scene" "LParagraphWalk$Scene;" ∈ TB := tb_of (i := 264) (by decide +kernel) rfl
theorem kw_265 : Cond.fieldLink "ParagraphWalk" 48 "ParagraphWalk" "latest" "LParagraphWalk$Journey;" ∈ TB := tb_of (i := 265) (by decide +kernel) rfl
theorem kw_266 : Cond.fieldLink "ParagraphWalk" 62 "ParagraphWalk" "walk" "LParagraphWalk$StackWalk;" ∈ TB := tb_of (i := 266) (by decide +kernel) rfl
theorem kw_267 : Cond.fieldLink "ParagraphWalk" 66 "ParagraphWalk" "stackScene" "LParagraphWalk$Scene;" ∈ TB := tb_of (i := 267) (by decide +kernel) rfl
theorem kw_268 : Cond.fieldLink "ParagraphWalk" 69 "ParagraphWalk" "stackJourney" "LParagraphWalk$Journey;" ∈ TB := tb_of (i := 268) (by decide +kernel) rfl
theorem kw_269 : Cond.fieldLink "ParagraphWalk" 72 "ParagraphWalk" "stackTrial" "LParagraphWalk$StackWalk;" ∈ TB := tb_of (i := 269) (by decide +kernel) rfl
theorem kw_270 : Cond.fieldLink "ParagraphWalk" 75 "ParagraphWalk" "nodeScene" "LParagraphWalk$Scene;" ∈ TB := tb_of (i := 270) (by decide +kernel) rfl
theorem kw_271 : Cond.fieldLink "ParagraphWalk" 78 "ParagraphWalk" "nodeJourney" "LParagraphWalk$Journey;" ∈ TB := tb_of (i := 271) (by decide +kernel) rfl
theorem kw_272 : Cond.fieldLink "ParagraphWalk" 84 "ParagraphWalk" "nodeTrial" "LParagraphWalk$NodeWalk;" ∈ TB := tb_of (i := 272) (by decide +kernel) rfl
theorem kw_300 : Cond.methodLink "ParagraphWalkLaw" 29 ⟨"ParagraphWalk", "cell", "(IJ)I"⟩ ∈ TB := tb_of (i := 300) (by decide +kernel) rfl
theorem kw_301 : Cond.instanceMethod ⟨"ParagraphWalk", "cell", "(IJ)I"⟩ ∈ TB := tb_of (i := 301) (by decide +kernel) rfl
theorem kw_302 : Cond.selects "ParagraphWalk" ⟨"ParagraphWalk", "cell", "(IJ)I"⟩ ⟨"ParagraphWalk", "cell", "(IJ)I"⟩ ∈ TB := tb_of (i := 302) (by decide +kernel) rfl
theorem kw_303 : Cond.code ⟨"ParagraphWalk", "cell", "(IJ)I"⟩ prog_1_method_2_code 4 (some .int) ∈ TB := tb_of (i := 303) (by decide +kernel) rfl
theorem kw_304 : Cond.methodLink "ParagraphWalk" 88 ⟨"ParagraphWalk$Scene", "addCell", "(IJ)I"⟩ ∈ TB := tb_of (i := 304) (by decide +kernel) rfl
theorem kw_305 : Cond.instanceMethod ⟨"ParagraphWalk$Scene", "addCell", "(IJ)I"⟩ ∈ TB := tb_of (i := 305) (by decide +kernel) rfl
theorem kw_306 : Cond.selects "ParagraphWalk$Scene" ⟨"ParagraphWalk$Scene", "addCell", "(IJ)I"⟩ ⟨"ParagraphWalk$Scene", "addCell", "(IJ)I"⟩ ∈ TB := tb_of (i := 306) (by decide +kernel) rfl
theorem kw_307 : Cond.code ⟨"ParagraphWalk$Scene", "addCell", "(IJ)I"⟩ prog_7_method_2_code 4 (some .int) ∈ TB := tb_of (i := 307) (by decide +kernel) rfl
theorem kw_308 : Cond.methodLink "ParagraphWalk$Scene" 26 ⟨"ParagraphWalk$Scene", "keep", "(IJ)V"⟩ ∈ TB := tb_of (i := 308) (by decide +kernel) rfl
theorem kw_309 : Cond.instanceMethod ⟨"ParagraphWalk$Scene", "keep", "(IJ)V"⟩ ∈ TB := tb_of (i := 309) (by decide +kernel) rfl
theorem kw_310 : Cond.selects "ParagraphWalk$Scene" ⟨"ParagraphWalk$Scene", "keep", "(IJ)V"⟩ ⟨"ParagraphWalk$Scene", "keep", "(IJ)V"⟩ ∈ TB := tb_of (i := 310) (by decide +kernel) rfl
theorem kw_311 : Cond.code ⟨"ParagraphWalk$Scene", "keep", "(IJ)V"⟩ prog_7_method_5_code 7 none ∈ TB := tb_of (i := 311) (by decide +kernel) rfl
theorem kw_314 : Cond.methodLink "ParagraphWalkLaw" 33 ⟨"ParagraphWalk", "node", "(III)I"⟩ ∈ TB := tb_of (i := 314) (by decide +kernel) rfl
theorem kw_315 : Cond.instanceMethod ⟨"ParagraphWalk", "node", "(III)I"⟩ ∈ TB := tb_of (i := 315) (by decide +kernel) rfl
theorem kw_316 : Cond.selects "ParagraphWalk" ⟨"ParagraphWalk", "node", "(III)I"⟩ ⟨"ParagraphWalk", "node", "(III)I"⟩ ∈ TB := tb_of (i := 316) (by decide +kernel) rfl
theorem kw_317 : Cond.code ⟨"ParagraphWalk", "node", "(III)I"⟩ prog_1_method_3_code 4 (some .int) ∈ TB := tb_of (i := 317) (by decide +kernel) rfl
theorem kw_318 : Cond.methodLink "ParagraphWalk" 95 ⟨"ParagraphWalk$Nodes", "add", "(IIII)I"⟩ ∈ TB := tb_of (i := 318) (by decide +kernel) rfl
theorem kw_319 : Cond.instanceMethod ⟨"ParagraphWalk$Nodes", "add", "(IIII)I"⟩ ∈ TB := tb_of (i := 319) (by decide +kernel) rfl
theorem kw_320 : Cond.selects "ParagraphWalk$Nodes" ⟨"ParagraphWalk$Nodes", "add", "(IIII)I"⟩ ⟨"ParagraphWalk$Nodes", "add", "(IIII)I"⟩ ∈ TB := tb_of (i := 320) (by decide +kernel) rfl
theorem kw_321 : Cond.code ⟨"ParagraphWalk$Nodes", "add", "(IIII)I"⟩ prog_5_method_2_code 6 (some .int) ∈ TB := tb_of (i := 321) (by decide +kernel) rfl
theorem kw_324 : Cond.methodLink "ParagraphWalk$Nodes" 27 ⟨"ParagraphWalk$Nodes", "meets", "(III)Z"⟩ ∈ TB := tb_of (i := 324) (by decide +kernel) rfl
theorem kw_326 : Cond.instanceMethod ⟨"ParagraphWalk$Nodes", "meets", "(III)Z"⟩ ∈ TB := tb_of (i := 326) (by decide +kernel) rfl
theorem kw_327 : Cond.code ⟨"ParagraphWalk$Nodes", "meets", "(III)Z"⟩ prog_5_method_9_code 4 (some .boolean) ∈ TB := tb_of (i := 327) (by decide +kernel) rfl
theorem kw_328 : Cond.methodLink "ParagraphWalk$Nodes" 56 ⟨"ParagraphWalk$Nodes", "isValue", "(I)Z"⟩ ∈ TB := tb_of (i := 328) (by decide +kernel) rfl
theorem kw_330 : Cond.instanceMethod ⟨"ParagraphWalk$Nodes", "isValue", "(I)Z"⟩ ∈ TB := tb_of (i := 330) (by decide +kernel) rfl
theorem kw_331 : Cond.code ⟨"ParagraphWalk$Nodes", "isValue", "(I)Z"⟩ prog_5_method_8_code 3 (some .boolean) ∈ TB := tb_of (i := 331) (by decide +kernel) rfl
theorem kw_332 : Cond.methodLink "ParagraphWalk$Nodes" 46 ⟨"ParagraphWalk$Nodes", "kindOf", "(I)I"⟩ ∈ TB := tb_of (i := 332) (by decide +kernel) rfl
theorem kw_333 : Cond.instanceMethod ⟨"ParagraphWalk$Nodes", "kindOf", "(I)I"⟩ ∈ TB := tb_of (i := 333) (by decide +kernel) rfl
theorem kw_334 : Cond.selects "ParagraphWalk$Nodes" ⟨"ParagraphWalk$Nodes", "kindOf", "(I)I"⟩ ⟨"ParagraphWalk$Nodes", "kindOf", "(I)I"⟩ ∈ TB := tb_of (i := 334) (by decide +kernel) rfl
theorem kw_335 : Cond.code ⟨"ParagraphWalk$Nodes", "kindOf", "(I)I"⟩ prog_5_method_3_code 2 (some .int) ∈ TB := tb_of (i := 335) (by decide +kernel) rfl
theorem kw_336 : Cond.methodLink "ParagraphWalk$Nodes" 60 ⟨"ParagraphWalk$Nodes", "isStatement", "(I)Z"⟩ ∈ TB := tb_of (i := 336) (by decide +kernel) rfl
theorem kw_337 : Cond.instanceMethod ⟨"ParagraphWalk$Nodes", "isStatement", "(I)Z"⟩ ∈ TB := tb_of (i := 337) (by decide +kernel) rfl
theorem kw_338 : Cond.selects "ParagraphWalk$Nodes" ⟨"ParagraphWalk$Nodes", "isStatement", "(I)Z"⟩ ⟨"ParagraphWalk$Nodes", "isStatement", "(I)Z"⟩ ∈ TB := tb_of (i := 338) (by decide +kernel) rfl
theorem kw_339 : Cond.code ⟨"ParagraphWalk$Nodes", "isStatement", "(I)Z"⟩ prog_5_method_6_code 3 (some .boolean) ∈ TB := tb_of (i := 339) (by decide +kernel) rfl
theorem kw_342 : Cond.methodLink "ParagraphWalk$Nodes" 34 ⟨"ParagraphWalk$Nodes", "isTargetSo", "(II)Z"⟩ ∈ TB := tb_of (i := 342) (by decide +kernel) rfl
theorem kw_344 : Cond.instanceMethod ⟨"ParagraphWalk$Nodes", "isTargetSo", "(II)Z"⟩ ∈ TB := tb_of (i := 344) (by decide +kernel) rfl
theorem kw_345 : Cond.code ⟨"ParagraphWalk$Nodes", "isTargetSo", "(II)Z"⟩ prog_5_method_10_code 3 (some .boolean) ∈ TB := tb_of (i := 345) (by decide +kernel) rfl
theorem kw_346 : Cond.methodLink "ParagraphWalk$Nodes" 38 ⟨"ParagraphWalk$Nodes", "sizeWith", "(III)I"⟩ ∈ TB := tb_of (i := 346) (by decide +kernel) rfl
theorem kw_348 : Cond.instanceMethod ⟨"ParagraphWalk$Nodes", "sizeWith", "(III)I"⟩ ∈ TB := tb_of (i := 348) (by decide +kernel) rfl
theorem kw_349 : Cond.code ⟨"ParagraphWalk$Nodes", "sizeWith", "(III)I"⟩ prog_5_method_11_code 5 (some .int) ∈ TB := tb_of (i := 349) (by decide +kernel) rfl
theorem kw_350 : Cond.methodLink "ParagraphWalkLaw" 38 ⟨"ParagraphWalk", "paragraph", "(II)I"⟩ ∈ TB := tb_of (i := 350) (by decide +kernel) rfl
theorem kw_351 : Cond.instanceMethod ⟨"ParagraphWalk", "paragraph", "(II)I"⟩ ∈ TB := tb_of (i := 351) (by decide +kernel) rfl
theorem kw_352 : Cond.selects "ParagraphWalk" ⟨"ParagraphWalk", "paragraph", "(II)I"⟩ ⟨"ParagraphWalk", "paragraph", "(II)I"⟩ ∈ TB := tb_of (i := 352) (by decide +kernel) rfl
theorem kw_353 : Cond.code ⟨"ParagraphWalk", "paragraph", "(II)I"⟩ prog_1_method_4_code 3 (some .int) ∈ TB := tb_of (i := 353) (by decide +kernel) rfl
theorem kw_354 : Cond.methodLink "ParagraphWalk" 99 ⟨"ParagraphWalk$Nodes", "isStatement", "(I)Z"⟩ ∈ TB := tb_of (i := 354) (by decide +kernel) rfl
theorem kw_355 : Cond.methodLink "ParagraphWalk" 103 ⟨"ParagraphWalk$Paragraphs", "add", "(II)I"⟩ ∈ TB := tb_of (i := 355) (by decide +kernel) rfl
theorem kw_356 : Cond.instanceMethod ⟨"ParagraphWalk$Paragraphs", "add", "(II)I"⟩ ∈ TB := tb_of (i := 356) (by decide +kernel) rfl
theorem kw_357 : Cond.selects "ParagraphWalk$Paragraphs" ⟨"ParagraphWalk$Paragraphs", "add", "(II)I"⟩ ⟨"ParagraphWalk$Paragraphs", "add", "(II)I"⟩ ∈ TB := tb_of (i := 357) (by decide +kernel) rfl
theorem kw_358 : Cond.code ⟨"ParagraphWalk$Paragraphs", "add", "(II)I"⟩ prog_6_method_2_code 3 (some .int) ∈ TB := tb_of (i := 358) (by decide +kernel) rfl
theorem kw_359 : Cond.methodLink "ParagraphWalkLaw" 43 ⟨"ParagraphWalk", "answer", "(II)I"⟩ ∈ TB := tb_of (i := 359) (by decide +kernel) rfl
theorem kw_360 : Cond.instanceMethod ⟨"ParagraphWalk", "answer", "(II)I"⟩ ∈ TB := tb_of (i := 360) (by decide +kernel) rfl
theorem kw_361 : Cond.selects "ParagraphWalk" ⟨"ParagraphWalk", "answer", "(II)I"⟩ ⟨"ParagraphWalk", "answer", "(II)I"⟩ ∈ TB := tb_of (i := 361) (by decide +kernel) rfl
theorem kw_362 : Cond.code ⟨"ParagraphWalk", "answer", "(II)I"⟩ prog_1_method_5_code 3 (some .int) ∈ TB := tb_of (i := 362) (by decide +kernel) rfl
theorem kw_363 : Cond.methodLink "ParagraphWalk" 106 ⟨"ParagraphWalk$Nodes", "kindOf", "(I)I"⟩ ∈ TB := tb_of (i := 363) (by decide +kernel) rfl
theorem kw_364 : Cond.methodLink "ParagraphWalk" 110 ⟨"ParagraphWalk$Scene", "takenOf", "(I)I"⟩ ∈ TB := tb_of (i := 364) (by decide +kernel) rfl
theorem kw_365 : Cond.instanceMethod ⟨"ParagraphWalk$Scene", "takenOf", "(I)I"⟩ ∈ TB := tb_of (i := 365) (by decide +kernel) rfl
theorem kw_366 : Cond.selects "ParagraphWalk$Scene" ⟨"ParagraphWalk$Scene", "takenOf", "(I)I"⟩ ⟨"ParagraphWalk$Scene", "takenOf", "(I)I"⟩ ∈ TB := tb_of (i := 366) (by decide +kernel) rfl
theorem kw_367 : Cond.code ⟨"ParagraphWalk$Scene", "takenOf", "(I)I"⟩ prog_7_method_6_code 2 (some .int) ∈ TB := tb_of (i := 367) (by decide +kernel) rfl
theorem kw_368 : Cond.methodLink "ParagraphWalk" 113 ⟨"ParagraphWalk$Answers", "tell", "(III)I"⟩ ∈ TB := tb_of (i := 368) (by decide +kernel) rfl
theorem kw_369 : Cond.instanceMethod ⟨"ParagraphWalk$Answers", "tell", "(III)I"⟩ ∈ TB := tb_of (i := 369) (by decide +kernel) rfl
theorem kw_370 : Cond.selects "ParagraphWalk$Answers" ⟨"ParagraphWalk$Answers", "tell", "(III)I"⟩ ⟨"ParagraphWalk$Answers", "tell", "(III)I"⟩ ∈ TB := tb_of (i := 370) (by decide +kernel) rfl
theorem kw_371 : Cond.code ⟨"ParagraphWalk$Answers", "tell", "(III)I"⟩ prog_2_method_2_code 4 (some .int) ∈ TB := tb_of (i := 371) (by decide +kernel) rfl
theorem kw_372 : Cond.methodLink "ParagraphWalk$Answers" 19 ⟨"java/lang/Math", "floorMod", "(II)I"⟩ ∈ TB := tb_of (i := 372) (by decide +kernel) rfl
theorem kw_373 : Cond.static ⟨"java/lang/Math", "floorMod", "(II)I"⟩ ∈ TB := tb_of (i := 373) (by decide +kernel) rfl
theorem kw_374 : Cond.code ⟨"java/lang/Math", "floorMod", "(II)I"⟩ prog_14_method_50_code 3 (some .int) ∈ TB := tb_of (i := 374) (by decide +kernel) rfl
theorem kw_375 : Cond.methodLink "ParagraphWalkLaw" 47 ⟨"ParagraphWalk", "run", "(I)I"⟩ ∈ TB := tb_of (i := 375) (by decide +kernel) rfl
theorem kw_376 : Cond.instanceMethod ⟨"ParagraphWalk", "run", "(I)I"⟩ ∈ TB := tb_of (i := 376) (by decide +kernel) rfl
theorem kw_377 : Cond.selects "ParagraphWalk" ⟨"ParagraphWalk", "run", "(I)I"⟩ ⟨"ParagraphWalk", "run", "(I)I"⟩ ∈ TB := tb_of (i := 377) (by decide +kernel) rfl
theorem kw_378 : Cond.code ⟨"ParagraphWalk", "run", "(I)I"⟩ prog_1_method_6_code 2 (some .int) ∈ TB := tb_of (i := 378) (by decide +kernel) rfl
theorem kw_379 : Cond.methodLink "ParagraphWalk" 117 ⟨"ParagraphWalk$Paragraphs", "has", "(I)Z"⟩ ∈ TB := tb_of (i := 379) (by decide +kernel) rfl
theorem kw_380 : Cond.instanceMethod ⟨"ParagraphWalk$Paragraphs", "has", "(I)Z"⟩ ∈ TB := tb_of (i := 380) (by decide +kernel) rfl
theorem kw_381 : Cond.selects "ParagraphWalk$Paragraphs" ⟨"ParagraphWalk$Paragraphs", "has", "(I)Z"⟩ ⟨"ParagraphWalk$Paragraphs", "has", "(I)Z"⟩ ∈ TB := tb_of (i := 381) (by decide +kernel) rfl
theorem kw_382 : Cond.code ⟨"ParagraphWalk$Paragraphs", "has", "(I)Z"⟩ prog_6_method_3_code 2 (some .boolean) ∈ TB := tb_of (i := 382) (by decide +kernel) rfl
theorem kw_383 : Cond.methodLink "ParagraphWalk" 120 ⟨"ParagraphWalk$Journey", "start", "(I)V"⟩ ∈ TB := tb_of (i := 383) (by decide +kernel) rfl
theorem kw_384 : Cond.instanceMethod ⟨"ParagraphWalk$Journey", "start", "(I)V"⟩ ∈ TB := tb_of (i := 384) (by decide +kernel) rfl
theorem kw_385 : Cond.selects "ParagraphWalk$Journey" ⟨"ParagraphWalk$Journey", "start", "(I)V"⟩ ⟨"ParagraphWalk$Journey", "start", "(I)V"⟩ ∈ TB := tb_of (i := 385) (by decide +kernel) rfl
theorem kw_386 : Cond.code ⟨"ParagraphWalk$Journey", "start", "(I)V"⟩ prog_3_method_2_code 2 none ∈ TB := tb_of (i := 386) (by decide +kernel) rfl
theorem kw_387 : Cond.methodLink "ParagraphWalk$Journey" 25 ⟨"ParagraphWalk$Journey", "goFurther", "(I)V"⟩ ∈ TB := tb_of (i := 387) (by decide +kernel) rfl
theorem kw_388 : Cond.instanceMethod ⟨"ParagraphWalk$Journey", "goFurther", "(I)V"⟩ ∈ TB := tb_of (i := 388) (by decide +kernel) rfl
theorem kw_389 : Cond.selects "ParagraphWalk$Journey" ⟨"ParagraphWalk$Journey", "goFurther", "(I)V"⟩ ⟨"ParagraphWalk$Journey", "goFurther", "(I)V"⟩ ∈ TB := tb_of (i := 389) (by decide +kernel) rfl
theorem kw_390 : Cond.code ⟨"ParagraphWalk$Journey", "goFurther", "(I)V"⟩ prog_3_method_3_code 2 none ∈ TB := tb_of (i := 390) (by decide +kernel) rfl
theorem kw_391 : Cond.methodLink "ParagraphWalk" 124 ⟨"ParagraphWalk$StackWalk", "startAt", "(I)V"⟩ ∈ TB := tb_of (i := 391) (by decide +kernel) rfl
theorem kw_392 : Cond.instanceMethod ⟨"ParagraphWalk$StackWalk", "startAt", "(I)V"⟩ ∈ TB := tb_of (i := 392) (by decide +kernel) rfl
theorem kw_393 : Cond.selects "ParagraphWalk$StackWalk" ⟨"ParagraphWalk$StackWalk", "startAt", "(I)V"⟩ ⟨"ParagraphWalk$StackWalk", "startAt", "(I)V"⟩ ∈ TB := tb_of (i := 393) (by decide +kernel) rfl
theorem kw_394 : Cond.code ⟨"ParagraphWalk$StackWalk", "startAt", "(I)V"⟩ prog_8_method_2_code 2 none ∈ TB := tb_of (i := 394) (by decide +kernel) rfl
theorem kw_395 : Cond.methodLink "ParagraphWalk" 127 ⟨"ParagraphWalk$StackWalk", "goAlong", "()V"⟩ ∈ TB := tb_of (i := 395) (by decide +kernel) rfl
theorem kw_396 : Cond.instanceMethod ⟨"ParagraphWalk$StackWalk", "goAlong", "()V"⟩ ∈ TB := tb_of (i := 396) (by decide +kernel) rfl
theorem kw_397 : Cond.selects "ParagraphWalk$StackWalk" ⟨"ParagraphWalk$StackWalk", "goAlong", "()V"⟩ ⟨"ParagraphWalk$StackWalk", "goAlong", "()V"⟩ ∈ TB := tb_of (i := 397) (by decide +kernel) rfl
theorem kw_398 : Cond.code ⟨"ParagraphWalk$StackWalk", "goAlong", "()V"⟩ prog_8_method_3_code 2 none ∈ TB := tb_of (i := 398) (by decide +kernel) rfl
theorem kw_399 : Cond.constant "ParagraphWalk$StackWalk" 38 432864 ∈ TB := tb_of (i := 399) (by decide +kernel) rfl
theorem kw_400 : Cond.methodLink "ParagraphWalk$StackWalk" 44 ⟨"ParagraphWalk$StackWalk", "enterNextParagraph", "()V"⟩ ∈ TB := tb_of (i := 400) (by decide +kernel) rfl
theorem kw_402 : Cond.instanceMethod ⟨"ParagraphWalk$StackWalk", "enterNextParagraph", "()V"⟩ ∈ TB := tb_of (i := 402) (by decide +kernel) rfl
theorem kw_403 : Cond.code ⟨"ParagraphWalk$StackWalk", "enterNextParagraph", "()V"⟩ prog_8_method_4_code 2 none ∈ TB := tb_of (i := 403) (by decide +kernel) rfl
theorem kw_404 : Cond.methodLink "ParagraphWalk$StackWalk" 55 ⟨"ParagraphWalk$Paragraphs", "has", "(I)Z"⟩ ∈ TB := tb_of (i := 404) (by decide +kernel) rfl
theorem kw_405 : Cond.methodLink "ParagraphWalk$StackWalk" 61 ⟨"ParagraphWalk$Journey", "endWith", "(J)V"⟩ ∈ TB := tb_of (i := 405) (by decide +kernel) rfl
theorem kw_406 : Cond.instanceMethod ⟨"ParagraphWalk$Journey", "endWith", "(J)V"⟩ ∈ TB := tb_of (i := 406) (by decide +kernel) rfl
theorem kw_407 : Cond.selects "ParagraphWalk$Journey" ⟨"ParagraphWalk$Journey", "endWith", "(J)V"⟩ ⟨"ParagraphWalk$Journey", "endWith", "(J)V"⟩ ∈ TB := tb_of (i := 407) (by decide +kernel) rfl
theorem kw_408 : Cond.code ⟨"ParagraphWalk$Journey", "endWith", "(J)V"⟩ prog_3_method_5_code 3 none ∈ TB := tb_of (i := 408) (by decide +kernel) rfl
theorem kw_409 : Cond.methodLink "ParagraphWalk$StackWalk" 65 ⟨"ParagraphWalk$Paragraphs", "rootOf", "(I)I"⟩ ∈ TB := tb_of (i := 409) (by decide +kernel) rfl
theorem kw_410 : Cond.instanceMethod ⟨"ParagraphWalk$Paragraphs", "rootOf", "(I)I"⟩ ∈ TB := tb_of (i := 410) (by decide +kernel) rfl
theorem kw_411 : Cond.selects "ParagraphWalk$Paragraphs" ⟨"ParagraphWalk$Paragraphs", "rootOf", "(I)I"⟩ ⟨"ParagraphWalk$Paragraphs", "rootOf", "(I)I"⟩ ∈ TB := tb_of (i := 411) (by decide +kernel) rfl
theorem kw_412 : Cond.code ⟨"ParagraphWalk$Paragraphs", "rootOf", "(I)I"⟩ prog_6_method_4_code 2 (some .int) ∈ TB := tb_of (i := 412) (by decide +kernel) rfl
theorem kw_413 : Cond.methodLink "ParagraphWalk$StackWalk" 69 ⟨"ParagraphWalk$StackWalk", "push", "(I)V"⟩ ∈ TB := tb_of (i := 413) (by decide +kernel) rfl
theorem kw_415 : Cond.instanceMethod ⟨"ParagraphWalk$StackWalk", "push", "(I)V"⟩ ∈ TB := tb_of (i := 415) (by decide +kernel) rfl
theorem kw_416 : Cond.code ⟨"ParagraphWalk$StackWalk", "push", "(I)V"⟩ prog_8_method_8_code 2 none ∈ TB := tb_of (i := 416) (by decide +kernel) rfl
theorem kw_417 : Cond.methodLink "ParagraphWalk$StackWalk" 47 ⟨"ParagraphWalk$StackWalk", "pop", "()I"⟩ ∈ TB := tb_of (i := 417) (by decide +kernel) rfl
theorem kw_419 : Cond.instanceMethod ⟨"ParagraphWalk$StackWalk", "pop", "()I"⟩ ∈ TB := tb_of (i := 419) (by decide +kernel) rfl
theorem kw_420 : Cond.code ⟨"ParagraphWalk$StackWalk", "pop", "()I"⟩ prog_8_method_9_code 1 (some .int) ∈ TB := tb_of (i := 420) (by decide +kernel) rfl
theorem kw_421 : Cond.methodLink "ParagraphWalk$StackWalk" 51 ⟨"ParagraphWalk$StackWalk", "takeUp", "(I)V"⟩ ∈ TB := tb_of (i := 421) (by decide +kernel) rfl
theorem kw_423 : Cond.instanceMethod ⟨"ParagraphWalk$StackWalk", "takeUp", "(I)V"⟩ ∈ TB := tb_of (i := 423) (by decide +kernel) rfl
theorem kw_424 : Cond.code ⟨"ParagraphWalk$StackWalk", "takeUp", "(I)V"⟩ prog_8_method_5_code 3 none ∈ TB := tb_of (i := 424) (by decide +kernel) rfl
theorem kw_425 : Cond.methodLink "ParagraphWalk$StackWalk" 72 ⟨"ParagraphWalk$Nodes", "kindOf", "(I)I"⟩ ∈ TB := tb_of (i := 425) (by decide +kernel) rfl
theorem kw_426 : Cond.methodLink "ParagraphWalk$StackWalk" 77 ⟨"ParagraphWalk$Nodes", "bOf", "(I)I"⟩ ∈ TB := tb_of (i := 426) (by decide +kernel) rfl
theorem kw_427 : Cond.instanceMethod ⟨"ParagraphWalk$Nodes", "bOf", "(I)I"⟩ ∈ TB := tb_of (i := 427) (by decide +kernel) rfl
theorem kw_428 : Cond.selects "ParagraphWalk$Nodes" ⟨"ParagraphWalk$Nodes", "bOf", "(I)I"⟩ ⟨"ParagraphWalk$Nodes", "bOf", "(I)I"⟩ ∈ TB := tb_of (i := 428) (by decide +kernel) rfl
theorem kw_429 : Cond.code ⟨"ParagraphWalk$Nodes", "bOf", "(I)I"⟩ prog_5_method_5_code 2 (some .int) ∈ TB := tb_of (i := 429) (by decide +kernel) rfl
theorem kw_430 : Cond.methodLink "ParagraphWalk$StackWalk" 80 ⟨"ParagraphWalk$Nodes", "aOf", "(I)I"⟩ ∈ TB := tb_of (i := 430) (by decide +kernel) rfl
theorem kw_431 : Cond.instanceMethod ⟨"ParagraphWalk$Nodes", "aOf", "(I)I"⟩ ∈ TB := tb_of (i := 431) (by decide +kernel) rfl
theorem kw_432 : Cond.selects "ParagraphWalk$Nodes" ⟨"ParagraphWalk$Nodes", "aOf", "(I)I"⟩ ⟨"ParagraphWalk$Nodes", "aOf", "(I)I"⟩ ∈ TB := tb_of (i := 432) (by decide +kernel) rfl
theorem kw_433 : Cond.code ⟨"ParagraphWalk$Nodes", "aOf", "(I)I"⟩ prog_5_method_4_code 2 (some .int) ∈ TB := tb_of (i := 433) (by decide +kernel) rfl
theorem kw_434 : Cond.methodLink "ParagraphWalk$StackWalk" 83 ⟨"ParagraphWalk$Stepper", "step", "(II)I"⟩ ∈ TB := tb_of (i := 434) (by decide +kernel) rfl
theorem kw_435 : Cond.instanceMethod ⟨"ParagraphWalk$Stepper", "step", "(II)I"⟩ ∈ TB := tb_of (i := 435) (by decide +kernel) rfl
theorem kw_436 : Cond.selects "ParagraphWalk$Stepper" ⟨"ParagraphWalk$Stepper", "step", "(II)I"⟩ ⟨"ParagraphWalk$Stepper", "step", "(II)I"⟩ ∈ TB := tb_of (i := 436) (by decide +kernel) rfl
theorem kw_437 : Cond.code ⟨"ParagraphWalk$Stepper", "step", "(II)I"⟩ prog_9_method_2_code 7 (some .int) ∈ TB := tb_of (i := 437) (by decide +kernel) rfl
theorem kw_438 : Cond.methodLink "ParagraphWalk$Stepper" 31 ⟨"ParagraphWalk$Journey", "begins", "(I)Z"⟩ ∈ TB := tb_of (i := 438) (by decide +kernel) rfl
theorem kw_439 : Cond.instanceMethod ⟨"ParagraphWalk$Journey", "begins", "(I)Z"⟩ ∈ TB := tb_of (i := 439) (by decide +kernel) rfl
theorem kw_440 : Cond.selects "ParagraphWalk$Journey" ⟨"ParagraphWalk$Journey", "begins", "(I)Z"⟩ ⟨"ParagraphWalk$Journey", "begins", "(I)Z"⟩ ∈ TB := tb_of (i := 440) (by decide +kernel) rfl
theorem kw_441 : Cond.code ⟨"ParagraphWalk$Journey", "begins", "(I)Z"⟩ prog_3_method_4_code 2 (some .boolean) ∈ TB := tb_of (i := 441) (by decide +kernel) rfl
theorem kw_442 : Cond.methodLink "ParagraphWalk$Stepper" 41 ⟨"ParagraphWalk$Nodes", "valueNeededBy", "(I)I"⟩ ∈ TB := tb_of (i := 442) (by decide +kernel) rfl
theorem kw_443 : Cond.instanceMethod ⟨"ParagraphWalk$Nodes", "valueNeededBy", "(I)I"⟩ ∈ TB := tb_of (i := 443) (by decide +kernel) rfl
theorem kw_444 : Cond.selects "ParagraphWalk$Nodes" ⟨"ParagraphWalk$Nodes", "valueNeededBy", "(I)I"⟩ ⟨"ParagraphWalk$Nodes", "valueNeededBy", "(I)I"⟩ ∈ TB := tb_of (i := 444) (by decide +kernel) rfl
theorem kw_445 : Cond.code ⟨"ParagraphWalk$Nodes", "valueNeededBy", "(I)I"⟩ prog_5_method_7_code 3 (some .int) ∈ TB := tb_of (i := 445) (by decide +kernel) rfl
theorem kw_446 : Cond.methodLink "ParagraphWalk$Nodes" 50 ⟨"ParagraphWalk$Nodes", "aOf", "(I)I"⟩ ∈ TB := tb_of (i := 446) (by decide +kernel) rfl
theorem kw_447 : Cond.methodLink "ParagraphWalk$Nodes" 53 ⟨"ParagraphWalk$Nodes", "bOf", "(I)I"⟩ ∈ TB := tb_of (i := 447) (by decide +kernel) rfl
theorem kw_448 : Cond.methodLink "ParagraphWalk$Stepper" 47 ⟨"ParagraphWalk$Stepper", "reckon", "(II)J"⟩ ∈ TB := tb_of (i := 448) (by decide +kernel) rfl
theorem kw_450 : Cond.instanceMethod ⟨"ParagraphWalk$Stepper", "reckon", "(II)J"⟩ ∈ TB := tb_of (i := 450) (by decide +kernel) rfl
theorem kw_451 : Cond.code ⟨"ParagraphWalk$Stepper", "reckon", "(II)J"⟩ prog_9_method_10_code 8 (some .long) ∈ TB := tb_of (i := 451) (by decide +kernel) rfl
theorem kw_452 : Cond.methodLink "ParagraphWalk$Stepper" 51 ⟨"ParagraphWalk$Nodes", "kindOf", "(I)I"⟩ ∈ TB := tb_of (i := 452) (by decide +kernel) rfl
theorem kw_453 : Cond.methodLink "ParagraphWalk$Stepper" 69 ⟨"ParagraphWalk$Nodes", "aOf", "(I)I"⟩ ∈ TB := tb_of (i := 453) (by decide +kernel) rfl
theorem kw_454 : Cond.methodLink "ParagraphWalk$Stepper" 128 ⟨"ParagraphWalk$Scene", "valueOf", "(I)J"⟩ ∈ TB := tb_of (i := 454) (by decide +kernel) rfl
theorem kw_455 : Cond.instanceMethod ⟨"ParagraphWalk$Scene", "valueOf", "(I)J"⟩ ∈ TB := tb_of (i := 455) (by decide +kernel) rfl
theorem kw_456 : Cond.selects "ParagraphWalk$Scene" ⟨"ParagraphWalk$Scene", "valueOf", "(I)J"⟩ ⟨"ParagraphWalk$Scene", "valueOf", "(I)J"⟩ ∈ TB := tb_of (i := 456) (by decide +kernel) rfl
theorem kw_457 : Cond.code ⟨"ParagraphWalk$Scene", "valueOf", "(I)J"⟩ prog_7_method_4_code 2 (some .long) ∈ TB := tb_of (i := 457) (by decide +kernel) rfl
theorem kw_458 : Cond.methodLink "ParagraphWalk$Stepper" 54 ⟨"ParagraphWalk$Nodes", "bOf", "(I)I"⟩ ∈ TB := tb_of (i := 458) (by decide +kernel) rfl
theorem kw_459 : Cond.methodLink "ParagraphWalk$Stepper" 132 ⟨"ParagraphWalk$Stepper", "join", "(IJJ)J"⟩ ∈ TB := tb_of (i := 459) (by decide +kernel) rfl
theorem kw_461 : Cond.instanceMethod ⟨"ParagraphWalk$Stepper", "join", "(IJJ)J"⟩ ∈ TB := tb_of (i := 461) (by decide +kernel) rfl
theorem kw_462 : Cond.code ⟨"ParagraphWalk$Stepper", "join", "(IJJ)J"⟩ prog_9_method_11_code 6 (some .long) ∈ TB := tb_of (i := 462) (by decide +kernel) rfl
theorem kw_463 : Cond.methodLink "ParagraphWalk$Stepper" 57 ⟨"ParagraphWalk$Stepper", "firstFitting", "(IJ)I"⟩ ∈ TB := tb_of (i := 463) (by decide +kernel) rfl
theorem kw_465 : Cond.instanceMethod ⟨"ParagraphWalk$Stepper", "firstFitting", "(IJ)I"⟩ ∈ TB := tb_of (i := 465) (by decide +kernel) rfl
theorem kw_466 : Cond.code ⟨"ParagraphWalk$Stepper", "firstFitting", "(IJ)I"⟩ prog_9_method_8_code 7 (some .int) ∈ TB := tb_of (i := 466) (by decide +kernel) rfl
theorem kw_467 : Cond.methodLink "ParagraphWalk$Stepper" 124 ⟨"ParagraphWalk$Stepper", "fits", "(IJ)Z"⟩ ∈ TB := tb_of (i := 467) (by decide +kernel) rfl
theorem kw_469 : Cond.instanceMethod ⟨"ParagraphWalk$Stepper", "fits", "(IJ)Z"⟩ ∈ TB := tb_of (i := 469) (by decide +kernel) rfl
theorem kw_470 : Cond.code ⟨"ParagraphWalk$Stepper", "fits", "(IJ)Z"⟩ prog_9_method_9_code 8 (some .boolean) ∈ TB := tb_of (i := 470) (by decide +kernel) rfl
theorem kw_471 : Cond.methodLink "ParagraphWalk$Stepper" 61 ⟨"ParagraphWalk$Journey", "endRaising", "(I)V"⟩ ∈ TB := tb_of (i := 471) (by decide +kernel) rfl
theorem kw_472 : Cond.instanceMethod ⟨"ParagraphWalk$Journey", "endRaising", "(I)V"⟩ ∈ TB := tb_of (i := 472) (by decide +kernel) rfl
theorem kw_473 : Cond.selects "ParagraphWalk$Journey" ⟨"ParagraphWalk$Journey", "endRaising", "(I)V"⟩ ⟨"ParagraphWalk$Journey", "endRaising", "(I)V"⟩ ∈ TB := tb_of (i := 473) (by decide +kernel) rfl
theorem kw_474 : Cond.code ⟨"ParagraphWalk$Journey", "endRaising", "(I)V"⟩ prog_3_method_6_code 2 none ∈ TB := tb_of (i := 474) (by decide +kernel) rfl
theorem kw_475 : Cond.methodLink "ParagraphWalk$Stepper" 65 ⟨"ParagraphWalk$Stepper", "act", "(IIJI)I"⟩ ∈ TB := tb_of (i := 475) (by decide +kernel) rfl
theorem kw_477 : Cond.instanceMethod ⟨"ParagraphWalk$Stepper", "act", "(IIJI)I"⟩ ∈ TB := tb_of (i := 477) (by decide +kernel) rfl
theorem kw_478 : Cond.code ⟨"ParagraphWalk$Stepper", "act", "(IIJI)I"⟩ prog_9_method_3_code 8 (some .int) ∈ TB := tb_of (i := 478) (by decide +kernel) rfl
theorem kw_479 : Cond.methodLink "ParagraphWalk$Stepper" 72 ⟨"ParagraphWalk$Scene", "keep", "(IJ)V"⟩ ∈ TB := tb_of (i := 479) (by decide +kernel) rfl
theorem kw_480 : Cond.methodLink "ParagraphWalk$Stepper" 78 ⟨"ParagraphWalk$Stepper", "goTo", "(I)I"⟩ ∈ TB := tb_of (i := 480) (by decide +kernel) rfl
theorem kw_482 : Cond.instanceMethod ⟨"ParagraphWalk$Stepper", "goTo", "(I)I"⟩ ∈ TB := tb_of (i := 482) (by decide +kernel) rfl
theorem kw_483 : Cond.code ⟨"ParagraphWalk$Stepper", "goTo", "(I)I"⟩ prog_9_method_4_code 2 (some .int) ∈ TB := tb_of (i := 483) (by decide +kernel) rfl
theorem kw_484 : Cond.methodLink "ParagraphWalk$Stepper" 102 ⟨"ParagraphWalk$Paragraphs", "has", "(I)Z"⟩ ∈ TB := tb_of (i := 484) (by decide +kernel) rfl
theorem kw_485 : Cond.methodLink "ParagraphWalk$Stepper" 88 ⟨"ParagraphWalk$Stepper", "leaveBehind", "(I)I"⟩ ∈ TB := tb_of (i := 485) (by decide +kernel) rfl
theorem kw_487 : Cond.instanceMethod ⟨"ParagraphWalk$Stepper", "leaveBehind", "(I)I"⟩ ∈ TB := tb_of (i := 487) (by decide +kernel) rfl
theorem kw_488 : Cond.code ⟨"ParagraphWalk$Stepper", "leaveBehind", "(I)I"⟩ prog_9_method_5_code 2 (some .int) ∈ TB := tb_of (i := 488) (by decide +kernel) rfl
theorem kw_489 : Cond.constantLong "ParagraphWalk$Stepper" 81 30 ∈ TB := tb_of (i := 489) (by decide +kernel) rfl
theorem kw_490 : Cond.methodLink "ParagraphWalk$Stepper" 83 ⟨"ParagraphWalk$Paragraphs", "lastOfSection", "(I)I"⟩ ∈ TB := tb_of (i := 490) (by decide +kernel) rfl
theorem kw_491 : Cond.instanceMethod ⟨"ParagraphWalk$Paragraphs", "lastOfSection", "(I)I"⟩ ∈ TB := tb_of (i := 491) (by decide +kernel) rfl
theorem kw_492 : Cond.selects "ParagraphWalk$Paragraphs" ⟨"ParagraphWalk$Paragraphs", "lastOfSection", "(I)I"⟩ ⟨"ParagraphWalk$Paragraphs", "lastOfSection", "(I)I"⟩ ∈ TB := tb_of (i := 492) (by decide +kernel) rfl
theorem kw_493 : Cond.code ⟨"ParagraphWalk$Paragraphs", "lastOfSection", "(I)I"⟩ prog_6_method_5_code 4 (some .int) ∈ TB := tb_of (i := 493) (by decide +kernel) rfl
theorem kw_494 : Cond.methodLink "ParagraphWalk$Paragraphs" 22 ⟨"ParagraphWalk$Paragraphs", "has", "(I)Z"⟩ ∈ TB := tb_of (i := 494) (by decide +kernel) rfl
theorem kw_495 : Cond.methodLink "ParagraphWalk$Stepper" 91 ⟨"ParagraphWalk$Journey", "endWith", "(J)V"⟩ ∈ TB := tb_of (i := 495) (by decide +kernel) rfl
theorem kw_496 : Cond.methodLink "ParagraphWalk$Stepper" 95 ⟨"ParagraphWalk$Stepper", "takeAnswer", "(I)I"⟩ ∈ TB := tb_of (i := 496) (by decide +kernel) rfl
theorem kw_498 : Cond.instanceMethod ⟨"ParagraphWalk$Stepper", "takeAnswer", "(I)I"⟩ ∈ TB := tb_of (i := 498) (by decide +kernel) rfl
theorem kw_499 : Cond.code ⟨"ParagraphWalk$Stepper", "takeAnswer", "(I)I"⟩ prog_9_method_6_code 3 (some .int) ∈ TB := tb_of (i := 499) (by decide +kernel) rfl
theorem kw_500 : Cond.methodLink "ParagraphWalk$Stepper" 109 ⟨"ParagraphWalk$Scene", "takenOf", "(I)I"⟩ ∈ TB := tb_of (i := 500) (by decide +kernel) rfl
theorem kw_501 : Cond.methodLink "ParagraphWalk$Stepper" 112 ⟨"ParagraphWalk$Answers", "waiting", "(II)I"⟩ ∈ TB := tb_of (i := 501) (by decide +kernel) rfl
theorem kw_502 : Cond.instanceMethod ⟨"ParagraphWalk$Answers", "waiting", "(II)I"⟩ ∈ TB := tb_of (i := 502) (by decide +kernel) rfl
theorem kw_503 : Cond.selects "ParagraphWalk$Answers" ⟨"ParagraphWalk$Answers", "waiting", "(II)I"⟩ ⟨"ParagraphWalk$Answers", "waiting", "(II)I"⟩ ∈ TB := tb_of (i := 503) (by decide +kernel) rfl
theorem kw_504 : Cond.code ⟨"ParagraphWalk$Answers", "waiting", "(II)I"⟩ prog_2_method_3_code 3 (some .int) ∈ TB := tb_of (i := 504) (by decide +kernel) rfl
theorem kw_505 : Cond.methodLink "ParagraphWalk$Stepper" 118 ⟨"ParagraphWalk$Scene", "take", "(I)V"⟩ ∈ TB := tb_of (i := 505) (by decide +kernel) rfl
theorem kw_506 : Cond.instanceMethod ⟨"ParagraphWalk$Scene", "take", "(I)V"⟩ ∈ TB := tb_of (i := 506) (by decide +kernel) rfl
theorem kw_507 : Cond.selects "ParagraphWalk$Scene" ⟨"ParagraphWalk$Scene", "take", "(I)V"⟩ ⟨"ParagraphWalk$Scene", "take", "(I)V"⟩ ∈ TB := tb_of (i := 507) (by decide +kernel) rfl
theorem kw_508 : Cond.code ⟨"ParagraphWalk$Scene", "take", "(I)V"⟩ prog_7_method_7_code 2 none ∈ TB := tb_of (i := 508) (by decide +kernel) rfl
theorem kw_509 : Cond.methodLink "ParagraphWalk$Stepper" 121 ⟨"ParagraphWalk$Answers", "nextOf", "(II)I"⟩ ∈ TB := tb_of (i := 509) (by decide +kernel) rfl
theorem kw_510 : Cond.instanceMethod ⟨"ParagraphWalk$Answers", "nextOf", "(II)I"⟩ ∈ TB := tb_of (i := 510) (by decide +kernel) rfl
theorem kw_511 : Cond.selects "ParagraphWalk$Answers" ⟨"ParagraphWalk$Answers", "nextOf", "(II)I"⟩ ⟨"ParagraphWalk$Answers", "nextOf", "(II)I"⟩ ∈ TB := tb_of (i := 511) (by decide +kernel) rfl
theorem kw_512 : Cond.code ⟨"ParagraphWalk$Answers", "nextOf", "(II)I"⟩ prog_2_method_4_code 3 (some .int) ∈ TB := tb_of (i := 512) (by decide +kernel) rfl
theorem kw_513 : Cond.methodLink "ParagraphWalk$Stepper" 98 ⟨"ParagraphWalk$Stepper", "byAnswer", "(III)I"⟩ ∈ TB := tb_of (i := 513) (by decide +kernel) rfl
theorem kw_515 : Cond.instanceMethod ⟨"ParagraphWalk$Stepper", "byAnswer", "(III)I"⟩ ∈ TB := tb_of (i := 515) (by decide +kernel) rfl
theorem kw_516 : Cond.code ⟨"ParagraphWalk$Stepper", "byAnswer", "(III)I"⟩ prog_9_method_7_code 4 (some .int) ∈ TB := tb_of (i := 516) (by decide +kernel) rfl
theorem kw_517 : Cond.methodLink "ParagraphWalk$StackWalk" 89 ⟨"ParagraphWalk$StackWalk", "follow", "(II)V"⟩ ∈ TB := tb_of (i := 517) (by decide +kernel) rfl
theorem kw_519 : Cond.instanceMethod ⟨"ParagraphWalk$StackWalk", "follow", "(II)V"⟩ ∈ TB := tb_of (i := 519) (by decide +kernel) rfl
theorem kw_520 : Cond.code ⟨"ParagraphWalk$StackWalk", "follow", "(II)V"⟩ prog_8_method_6_code 3 none ∈ TB := tb_of (i := 520) (by decide +kernel) rfl
theorem kw_521 : Cond.methodLink "ParagraphWalk$StackWalk" 93 ⟨"ParagraphWalk$StackWalk", "dropToSentenceEnd", "()V"⟩ ∈ TB := tb_of (i := 521) (by decide +kernel) rfl
theorem kw_523 : Cond.instanceMethod ⟨"ParagraphWalk$StackWalk", "dropToSentenceEnd", "()V"⟩ ∈ TB := tb_of (i := 523) (by decide +kernel) rfl
theorem kw_524 : Cond.code ⟨"ParagraphWalk$StackWalk", "dropToSentenceEnd", "()V"⟩ prog_8_method_7_code 2 none ∈ TB := tb_of (i := 524) (by decide +kernel) rfl
theorem kw_525 : Cond.methodLink "ParagraphWalk$StackWalk" 99 ⟨"ParagraphWalk$StackWalk", "startAt", "(I)V"⟩ ∈ TB := tb_of (i := 525) (by decide +kernel) rfl
theorem kw_526 : Cond.methodLink "ParagraphWalkLaw" 60 ⟨"ParagraphWalk", "order", "(I)I"⟩ ∈ TB := tb_of (i := 526) (by decide +kernel) rfl
theorem kw_527 : Cond.instanceMethod ⟨"ParagraphWalk", "order", "(I)I"⟩ ∈ TB := tb_of (i := 527) (by decide +kernel) rfl
theorem kw_528 : Cond.selects "ParagraphWalk" ⟨"ParagraphWalk", "order", "(I)I"⟩ ⟨"ParagraphWalk", "order", "(I)I"⟩ ∈ TB := tb_of (i := 528) (by decide +kernel) rfl
theorem kw_529 : Cond.code ⟨"ParagraphWalk", "order", "(I)I"⟩ prog_1_method_8_code 2 (some .int) ∈ TB := tb_of (i := 529) (by decide +kernel) rfl
theorem kw_530 : Cond.methodLink "ParagraphWalk" 147 ⟨"ParagraphWalk$Journey", "begunAt", "(I)I"⟩ ∈ TB := tb_of (i := 530) (by decide +kernel) rfl
theorem kw_531 : Cond.instanceMethod ⟨"ParagraphWalk$Journey", "begunAt", "(I)I"⟩ ∈ TB := tb_of (i := 531) (by decide +kernel) rfl
theorem kw_532 : Cond.selects "ParagraphWalk$Journey" ⟨"ParagraphWalk$Journey", "begunAt", "(I)I"⟩ ⟨"ParagraphWalk$Journey", "begunAt", "(I)I"⟩ ∈ TB := tb_of (i := 532) (by decide +kernel) rfl
theorem kw_533 : Cond.code ⟨"ParagraphWalk$Journey", "begunAt", "(I)I"⟩ prog_3_method_7_code 2 (some .int) ∈ TB := tb_of (i := 533) (by decide +kernel) rfl
theorem kw_534 : Cond.methodLink "ParagraphWalkLaw" 64 ⟨"ParagraphWalk", "second", "(I)I"⟩ ∈ TB := tb_of (i := 534) (by decide +kernel) rfl
theorem kw_535 : Cond.instanceMethod ⟨"ParagraphWalk", "second", "(I)I"⟩ ∈ TB := tb_of (i := 535) (by decide +kernel) rfl
theorem kw_536 : Cond.selects "ParagraphWalk" ⟨"ParagraphWalk", "second", "(I)I"⟩ ⟨"ParagraphWalk", "second", "(I)I"⟩ ∈ TB := tb_of (i := 536) (by decide +kernel) rfl
theorem kw_537 : Cond.code ⟨"ParagraphWalk", "second", "(I)I"⟩ prog_1_method_9_code 2 (some .int) ∈ TB := tb_of (i := 537) (by decide +kernel) rfl
theorem kw_538 : Cond.methodLink "ParagraphWalk" 150 ⟨"ParagraphWalk$Scene", "copyFrom", "(LParagraphWalk$Scene;)V"⟩ ∈ TB := tb_of (i := 538) (by decide +kernel) rfl
theorem kw_539 : Cond.instanceMethod ⟨"ParagraphWalk$Scene", "copyFrom", "(LParagraphWalk$Scene;)V"⟩ ∈ TB := tb_of (i := 539) (by decide +kernel) rfl
theorem kw_540 : Cond.selects "ParagraphWalk$Scene" ⟨"ParagraphWalk$Scene", "copyFrom", "(LParagraphWalk$Scene;)V"⟩ ⟨"ParagraphWalk$Scene", "copyFrom", "(LParagraphWalk$Scene;)V"⟩ ∈ TB := tb_of (i := 540) (by decide +kernel) rfl
theorem kw_541 : Cond.code ⟨"ParagraphWalk$Scene", "copyFrom", "(LParagraphWalk$Scene;)V"⟩ prog_7_method_8_code 2 none ∈ TB := tb_of (i := 541) (by decide +kernel) rfl
theorem kw_542 : Cond.methodLink "ParagraphWalk$Scene" 33 ⟨"java/lang/System", "arraycopy", "(Ljava/lang/Object;ILjava/lang/Object;II)V"⟩ ∈ TB := tb_of (i := 542) (by decide +kernel) rfl
theorem kw_543 : Cond.static ⟨"java/lang/System", "arraycopy", "(Ljava/lang/Object;ILjava/lang/Object;II)V"⟩ ∈ TB := tb_of (i := 543) (by decide +kernel) rfl
theorem kw_544 : Cond.native ⟨"java/lang/System", "arraycopy", "(Ljava/lang/Object;ILjava/lang/Object;II)V"⟩ ∈ TB := tb_of (i := 544) (by decide +kernel) rfl
theorem kw_545 : Cond.methodLink "ParagraphWalk" 154 ⟨"ParagraphWalk$NodeWalk", "goFrom", "(I)V"⟩ ∈ TB := tb_of (i := 545) (by decide +kernel) rfl
theorem kw_546 : Cond.instanceMethod ⟨"ParagraphWalk$NodeWalk", "goFrom", "(I)V"⟩ ∈ TB := tb_of (i := 546) (by decide +kernel) rfl
theorem kw_547 : Cond.selects "ParagraphWalk$NodeWalk" ⟨"ParagraphWalk$NodeWalk", "goFrom", "(I)V"⟩ ⟨"ParagraphWalk$NodeWalk", "goFrom", "(I)V"⟩ ∈ TB := tb_of (i := 547) (by decide +kernel) rfl
theorem kw_548 : Cond.code ⟨"ParagraphWalk$NodeWalk", "goFrom", "(I)V"⟩ prog_4_method_2_code 6 none ∈ TB := tb_of (i := 548) (by decide +kernel) rfl
theorem kw_549 : Cond.constant "ParagraphWalk$NodeWalk" 27 432864 ∈ TB := tb_of (i := 549) (by decide +kernel) rfl
theorem kw_550 : Cond.methodLink "ParagraphWalk$NodeWalk" 34 ⟨"ParagraphWalk$Paragraphs", "has", "(I)Z"⟩ ∈ TB := tb_of (i := 550) (by decide +kernel) rfl
theorem kw_551 : Cond.methodLink "ParagraphWalk$NodeWalk" 40 ⟨"ParagraphWalk$Journey", "endWith", "(J)V"⟩ ∈ TB := tb_of (i := 551) (by decide +kernel) rfl
theorem kw_552 : Cond.methodLink "ParagraphWalk$NodeWalk" 44 ⟨"ParagraphWalk$Paragraphs", "rootOf", "(I)I"⟩ ∈ TB := tb_of (i := 552) (by decide +kernel) rfl
theorem kw_553 : Cond.methodLink "ParagraphWalk$NodeWalk" 48 ⟨"ParagraphWalk$NodeWalk", "goInto", "(III)I"⟩ ∈ TB := tb_of (i := 553) (by decide +kernel) rfl
theorem kw_555 : Cond.instanceMethod ⟨"ParagraphWalk$NodeWalk", "goInto", "(III)I"⟩ ∈ TB := tb_of (i := 555) (by decide +kernel) rfl
theorem kw_556 : Cond.code ⟨"ParagraphWalk$NodeWalk", "goInto", "(III)I"⟩ prog_4_method_3_code 6 (some .int) ∈ TB := tb_of (i := 556) (by decide +kernel) rfl
theorem kw_557 : Cond.methodLink "ParagraphWalk$NodeWalk" 57 ⟨"ParagraphWalk$Nodes", "kindOf", "(I)I"⟩ ∈ TB := tb_of (i := 557) (by decide +kernel) rfl
theorem kw_558 : Cond.methodLink "ParagraphWalk$NodeWalk" 62 ⟨"ParagraphWalk$Nodes", "aOf", "(I)I"⟩ ∈ TB := tb_of (i := 558) (by decide +kernel) rfl
theorem kw_559 : Cond.methodLink "ParagraphWalk$NodeWalk" 65 ⟨"ParagraphWalk$Nodes", "bOf", "(I)I"⟩ ∈ TB := tb_of (i := 559) (by decide +kernel) rfl
theorem kw_560 : Cond.methodLink "ParagraphWalk$NodeWalk" 68 ⟨"ParagraphWalk$Stepper", "step", "(II)I"⟩ ∈ TB := tb_of (i := 560) (by decide +kernel) rfl
theorem kw_561 : Cond.methodLink "ParagraphWalk" 157 ⟨"ParagraphWalk$Journey", "isLike", "(LParagraphWalk$Journey;)Z"⟩ ∈ TB := tb_of (i := 561) (by decide +kernel) rfl
theorem kw_562 : Cond.instanceMethod ⟨"ParagraphWalk$Journey", "isLike", "(LParagraphWalk$Journey;)Z"⟩ ∈ TB := tb_of (i := 562) (by decide +kernel) rfl
theorem kw_563 : Cond.selects "ParagraphWalk$Journey" ⟨"ParagraphWalk$Journey", "isLike", "(LParagraphWalk$Journey;)Z"⟩ ⟨"ParagraphWalk$Journey", "isLike", "(LParagraphWalk$Journey;)Z"⟩ ∈ TB := tb_of (i := 563) (by decide +kernel) rfl
theorem kw_564 : Cond.code ⟨"ParagraphWalk$Journey", "isLike", "(LParagraphWalk$Journey;)Z"⟩ prog_3_method_8_code 3 (some .boolean) ∈ TB := tb_of (i := 564) (by decide +kernel) rfl
theorem kw_565 : Cond.methodLink "ParagraphWalk$Journey" 39 ⟨"ParagraphWalk$Journey", "begunAt", "(I)I"⟩ ∈ TB := tb_of (i := 565) (by decide +kernel) rfl
theorem kw_566 : Cond.methodLink "ParagraphWalk" 161 ⟨"ParagraphWalk$Scene", "isLike", "(LParagraphWalk$Scene;)Z"⟩ ∈ TB := tb_of (i := 566) (by decide +kernel) rfl
theorem kw_567 : Cond.instanceMethod ⟨"ParagraphWalk$Scene", "isLike", "(LParagraphWalk$Scene;)Z"⟩ ∈ TB := tb_of (i := 567) (by decide +kernel) rfl
theorem kw_568 : Cond.selects "ParagraphWalk$Scene" ⟨"ParagraphWalk$Scene", "isLike", "(LParagraphWalk$Scene;)Z"⟩ ⟨"ParagraphWalk$Scene", "isLike", "(LParagraphWalk$Scene;)Z"⟩ ∈ TB := tb_of (i := 568) (by decide +kernel) rfl
theorem kw_569 : Cond.code ⟨"ParagraphWalk$Scene", "isLike", "(LParagraphWalk$Scene;)Z"⟩ prog_7_method_9_code 3 (some .boolean) ∈ TB := tb_of (i := 569) (by decide +kernel) rfl
theorem kw_570 : Cond.methodLink "ParagraphWalkLaw" 68 ⟨"ParagraphWalk", "place", "()I"⟩ ∈ TB := tb_of (i := 570) (by decide +kernel) rfl
theorem kw_571 : Cond.instanceMethod ⟨"ParagraphWalk", "place", "()I"⟩ ∈ TB := tb_of (i := 571) (by decide +kernel) rfl
theorem kw_572 : Cond.selects "ParagraphWalk" ⟨"ParagraphWalk", "place", "()I"⟩ ⟨"ParagraphWalk", "place", "()I"⟩ ∈ TB := tb_of (i := 572) (by decide +kernel) rfl
theorem kw_573 : Cond.code ⟨"ParagraphWalk", "place", "()I"⟩ prog_1_method_10_code 1 (some .int) ∈ TB := tb_of (i := 573) (by decide +kernel) rfl
theorem kw_574 : Cond.methodLink "ParagraphWalkLaw" 72 ⟨"ParagraphWalk", "raised", "()I"⟩ ∈ TB := tb_of (i := 574) (by decide +kernel) rfl
theorem kw_575 : Cond.instanceMethod ⟨"ParagraphWalk", "raised", "()I"⟩ ∈ TB := tb_of (i := 575) (by decide +kernel) rfl
theorem kw_576 : Cond.selects "ParagraphWalk" ⟨"ParagraphWalk", "raised", "()I"⟩ ⟨"ParagraphWalk", "raised", "()I"⟩ ∈ TB := tb_of (i := 576) (by decide +kernel) rfl
theorem kw_577 : Cond.code ⟨"ParagraphWalk", "raised", "()I"⟩ prog_1_method_11_code 1 (some .int) ∈ TB := tb_of (i := 577) (by decide +kernel) rfl
theorem kw_578 : Cond.methodLink "ParagraphWalkLaw" 76 ⟨"ParagraphWalk", "goOn", "(J)I"⟩ ∈ TB := tb_of (i := 578) (by decide +kernel) rfl
theorem kw_579 : Cond.instanceMethod ⟨"ParagraphWalk", "goOn", "(J)I"⟩ ∈ TB := tb_of (i := 579) (by decide +kernel) rfl
theorem kw_580 : Cond.selects "ParagraphWalk" ⟨"ParagraphWalk", "goOn", "(J)I"⟩ ⟨"ParagraphWalk", "goOn", "(J)I"⟩ ∈ TB := tb_of (i := 580) (by decide +kernel) rfl
theorem kw_581 : Cond.code ⟨"ParagraphWalk", "goOn", "(J)I"⟩ prog_1_method_12_code 3 (some .int) ∈ TB := tb_of (i := 581) (by decide +kernel) rfl
theorem kw_582 : Cond.methodLink "ParagraphWalk" 170 ⟨"ParagraphWalk$Journey", "goFurther", "(I)V"⟩ ∈ TB := tb_of (i := 582) (by decide +kernel) rfl
theorem kw_583 : Cond.methodLink "ParagraphWalkLaw" 81 ⟨"ParagraphWalk", "result", "()J"⟩ ∈ TB := tb_of (i := 583) (by decide +kernel) rfl
theorem kw_584 : Cond.instanceMethod ⟨"ParagraphWalk", "result", "()J"⟩ ∈ TB := tb_of (i := 584) (by decide +kernel) rfl
theorem kw_585 : Cond.selects "ParagraphWalk" ⟨"ParagraphWalk", "result", "()J"⟩ ⟨"ParagraphWalk", "result", "()J"⟩ ∈ TB := tb_of (i := 585) (by decide +kernel) rfl
theorem kw_586 : Cond.code ⟨"ParagraphWalk", "result", "()J"⟩ prog_1_method_13_code 1 (some .long) ∈ TB := tb_of (i := 586) (by decide +kernel) rfl
theorem kw_587 : Cond.methodLink "ParagraphWalkLaw" 86 ⟨"ParagraphWalk", "count", "(I)I"⟩ ∈ TB := tb_of (i := 587) (by decide +kernel) rfl
theorem kw_588 : Cond.instanceMethod ⟨"ParagraphWalk", "count", "(I)I"⟩ ∈ TB := tb_of (i := 588) (by decide +kernel) rfl
theorem kw_589 : Cond.selects "ParagraphWalk" ⟨"ParagraphWalk", "count", "(I)I"⟩ ⟨"ParagraphWalk", "count", "(I)I"⟩ ∈ TB := tb_of (i := 589) (by decide +kernel) rfl
theorem kw_590 : Cond.code ⟨"ParagraphWalk", "count", "(I)I"⟩ prog_1_method_14_code 2 (some .int) ∈ TB := tb_of (i := 590) (by decide +kernel) rfl
theorem kw_591 : Cond.methodLink "ParagraphWalk" 181 ⟨"ParagraphWalk", "allWaiting", "()I"⟩ ∈ TB := tb_of (i := 591) (by decide +kernel) rfl
theorem kw_593 : Cond.instanceMethod ⟨"ParagraphWalk", "allWaiting", "()I"⟩ ∈ TB := tb_of (i := 593) (by decide +kernel) rfl
theorem kw_594 : Cond.code ⟨"ParagraphWalk", "allWaiting", "()I"⟩ prog_1_method_15_code 3 (some .int) ∈ TB := tb_of (i := 594) (by decide +kernel) rfl
theorem kw_595 : Cond.methodLink "ParagraphWalk" 186 ⟨"ParagraphWalk$Answers", "waiting", "(II)I"⟩ ∈ TB := tb_of (i := 595) (by decide +kernel) rfl
theorem kw_596 : Cond.methodLink "ParagraphWalkLaw" 15 ⟨"ParagraphWalkLaw", "cell", "([II)I"⟩ ∈ TB := tb_of (i := 596) (by decide +kernel) rfl
theorem kw_597 : Cond.static ⟨"ParagraphWalkLaw", "cell", "([II)I"⟩ ∈ TB := tb_of (i := 597) (by decide +kernel) rfl
theorem kw_598 : Cond.code ⟨"ParagraphWalkLaw", "cell", "([II)I"⟩ method_2_code 2 (some .int) ∈ TB := tb_of (i := 598) (by decide +kernel) rfl
theorem kw_599 : Cond.methodLink "ParagraphWalkLaw" 52 ⟨"ParagraphWalkLaw", "get", "(LParagraphWalk;I[J)I"⟩ ∈ TB := tb_of (i := 599) (by decide +kernel) rfl
theorem kw_600 : Cond.static ⟨"ParagraphWalkLaw", "get", "(LParagraphWalk;I[J)I"⟩ ∈ TB := tb_of (i := 600) (by decide +kernel) rfl
theorem kw_602 : Cond.classLink "ParagraphWalkLaw" 13 "java/lang/IllegalArgumentException" ∈ TB := tb_of (i := 602) (by decide +kernel) rfl
theorem kw_603 : Cond.methodLink "ParagraphWalkLaw" 7 ⟨"ParagraphWalk", "get", "(I)J"⟩ ∈ TB := tb_of (i := 603) (by decide +kernel) rfl
theorem kw_604 : Cond.instanceMethod ⟨"ParagraphWalk", "get", "(I)J"⟩ ∈ TB := tb_of (i := 604) (by decide +kernel) rfl
theorem kw_605 : Cond.selects "ParagraphWalk" ⟨"ParagraphWalk", "get", "(I)J"⟩ ⟨"ParagraphWalk", "get", "(I)J"⟩ ∈ TB := tb_of (i := 605) (by decide +kernel) rfl
theorem kw_606 : Cond.code ⟨"ParagraphWalk", "get", "(I)J"⟩ prog_1_method_7_code 2 (some .long) ∈ TB := tb_of (i := 606) (by decide +kernel) rfl
theorem kw_607 : Cond.methodLink "ParagraphWalk" 133 ⟨"ParagraphWalk$Scene", "hasCell", "(I)Z"⟩ ∈ TB := tb_of (i := 607) (by decide +kernel) rfl
theorem kw_608 : Cond.instanceMethod ⟨"ParagraphWalk$Scene", "hasCell", "(I)Z"⟩ ∈ TB := tb_of (i := 608) (by decide +kernel) rfl
theorem kw_609 : Cond.selects "ParagraphWalk$Scene" ⟨"ParagraphWalk$Scene", "hasCell", "(I)Z"⟩ ⟨"ParagraphWalk$Scene", "hasCell", "(I)Z"⟩ ∈ TB := tb_of (i := 609) (by decide +kernel) rfl
theorem kw_610 : Cond.code ⟨"ParagraphWalk$Scene", "hasCell", "(I)Z"⟩ prog_7_method_3_code 2 (some .boolean) ∈ TB := tb_of (i := 610) (by decide +kernel) rfl
theorem kw_611 : Cond.classLink "ParagraphWalk" 136 "java/lang/IllegalArgumentException" ∈ TB := tb_of (i := 611) (by decide +kernel) rfl
theorem kw_612 : Cond.instantiable "java/lang/IllegalArgumentException" 6 ∈ TB := tb_of (i := 612) (by decide +kernel) rfl
theorem kw_620 : Cond.selects "java/lang/IllegalArgumentException" ⟨"java/lang/Throwable", "fillInStackTrace", "(I)Ljava/lang/Throwable;"⟩ ⟨"java/lang/Throwable", "fillInStackTrace", "(I)Ljava/lang/Throwable;"⟩ ∈ TB := tb_of (i := 620) (by decide +kernel) rfl
theorem kw_621 : Cond.selects "java/lang/IllegalArgumentException" ⟨"java/lang/Throwable", "fillInStackTrace", "()Ljava/lang/Throwable;"⟩ ⟨"java/lang/Throwable", "fillInStackTrace", "()Ljava/lang/Throwable;"⟩ ∈ TB := tb_of (i := 621) (by decide +kernel) rfl
theorem kw_632 : Cond.fieldLink "java/lang/Throwable" 198 "java/lang/Throwable" "backtrace" "Ljava/lang/Object;" ∈ TB := tb_of (i := 632) (by decide +kernel) rfl
theorem kw_634 : Cond.instanceMethod ⟨"java/lang/Throwable", "<init>", "()V"⟩ ∈ TB := tb_of (i := 634) (by decide +kernel) rfl
theorem kw_635 : Cond.code ⟨"java/lang/Throwable", "<init>", "()V"⟩ prog_18_method_1_code 1 none ∈ TB := tb_of (i := 635) (by decide +kernel) rfl
theorem kw_636 : Cond.methodLink "java/lang/Throwable" 1 ⟨"java/lang/Object", "<init>", "()V"⟩ ∈ TB := tb_of (i := 636) (by decide +kernel) rfl
theorem kw_637 : Cond.fieldLink "java/lang/Throwable" 13 "java/lang/Throwable" "UNASSIGNED_STACK" "[Ljava/lang/StackTraceElement;" ∈ TB := tb_of (i := 637) (by decide +kernel) rfl
theorem kw_639 : Cond.fieldLink "java/lang/Throwable" 20 "java/lang/Throwable" "SUPPRESSED_SENTINEL" "Ljava/util/List;" ∈ TB := tb_of (i := 639) (by decide +kernel) rfl
theorem kw_641 : Cond.methodLink "java/lang/Throwable" 27 ⟨"java/lang/Throwable", "fillInStackTrace", "()Ljava/lang/Throwable;"⟩ ∈ TB := tb_of (i := 641) (by decide +kernel) rfl
theorem kw_642 : Cond.instanceMethod ⟨"java/lang/Throwable", "fillInStackTrace", "()Ljava/lang/Throwable;"⟩ ∈ TB := tb_of (i := 642) (by decide +kernel) rfl
theorem kw_645 : Cond.methodLink "java/lang/Throwable" 202 ⟨"java/lang/Throwable", "fillInStackTrace", "(I)Ljava/lang/Throwable;"⟩ ∈ TB := tb_of (i := 645) (by decide +kernel) rfl
theorem kw_647 : Cond.instanceMethod ⟨"java/lang/Throwable", "fillInStackTrace", "(I)Ljava/lang/Throwable;"⟩ ∈ TB := tb_of (i := 647) (by decide +kernel) rfl
theorem kw_648 : Cond.instantiable "java/lang/Throwable" 6 ∈ TB := tb_of (i := 648) (by decide +kernel) rfl
theorem kw_649 : Cond.native ⟨"java/lang/Throwable", "fillInStackTrace", "(I)Ljava/lang/Throwable;"⟩ ∈ TB := tb_of (i := 649) (by decide +kernel) rfl
theorem kw_651 : Cond.methodLink "ParagraphWalk" 140 ⟨"java/lang/IllegalArgumentException", "<init>", "(Ljava/lang/String;)V"⟩ ∈ TB := tb_of (i := 651) (by decide +kernel) rfl
theorem kw_652 : Cond.instanceMethod ⟨"java/lang/IllegalArgumentException", "<init>", "(Ljava/lang/String;)V"⟩ ∈ TB := tb_of (i := 652) (by decide +kernel) rfl
theorem kw_653 : Cond.code ⟨"java/lang/IllegalArgumentException", "<init>", "(Ljava/lang/String;)V"⟩ prog_13_method_2_code 2 none ∈ TB := tb_of (i := 653) (by decide +kernel) rfl
theorem kw_654 : Cond.methodLink "java/lang/IllegalArgumentException" 7 ⟨"java/lang/RuntimeException", "<init>", "(Ljava/lang/String;)V"⟩ ∈ TB := tb_of (i := 654) (by decide +kernel) rfl
theorem kw_655 : Cond.instanceMethod ⟨"java/lang/RuntimeException", "<init>", "(Ljava/lang/String;)V"⟩ ∈ TB := tb_of (i := 655) (by decide +kernel) rfl
theorem kw_656 : Cond.code ⟨"java/lang/RuntimeException", "<init>", "(Ljava/lang/String;)V"⟩ prog_15_method_2_code 2 none ∈ TB := tb_of (i := 656) (by decide +kernel) rfl
theorem kw_657 : Cond.methodLink "java/lang/RuntimeException" 7 ⟨"java/lang/Exception", "<init>", "(Ljava/lang/String;)V"⟩ ∈ TB := tb_of (i := 657) (by decide +kernel) rfl
theorem kw_658 : Cond.instanceMethod ⟨"java/lang/Exception", "<init>", "(Ljava/lang/String;)V"⟩ ∈ TB := tb_of (i := 658) (by decide +kernel) rfl
theorem kw_659 : Cond.code ⟨"java/lang/Exception", "<init>", "(Ljava/lang/String;)V"⟩ prog_12_method_2_code 2 none ∈ TB := tb_of (i := 659) (by decide +kernel) rfl
theorem kw_660 : Cond.methodLink "java/lang/Exception" 7 ⟨"java/lang/Throwable", "<init>", "(Ljava/lang/String;)V"⟩ ∈ TB := tb_of (i := 660) (by decide +kernel) rfl
theorem kw_661 : Cond.instanceMethod ⟨"java/lang/Throwable", "<init>", "(Ljava/lang/String;)V"⟩ ∈ TB := tb_of (i := 661) (by decide +kernel) rfl
theorem kw_662 : Cond.code ⟨"java/lang/Throwable", "<init>", "(Ljava/lang/String;)V"⟩ prog_18_method_2_code 2 none ∈ TB := tb_of (i := 662) (by decide +kernel) rfl
theorem kw_664 : Cond.fieldLink "java/lang/Throwable" 31 "java/lang/Throwable" "detailMessage" "Ljava/lang/String;" ∈ TB := tb_of (i := 664) (by decide +kernel) rfl
theorem kw_665 : Cond.fieldLink "java/lang/Throwable" 7 "java/lang/Throwable" "cause" "Ljava/lang/Throwable;" ∈ TB := tb_of (i := 665) (by decide +kernel) rfl
theorem kw_666 : Cond.fieldLink "java/lang/Throwable" 17 "java/lang/Throwable" "stackTrace" "[Ljava/lang/StackTraceElement;" ∈ TB := tb_of (i := 666) (by decide +kernel) rfl
theorem kw_667 : Cond.fieldLink "java/lang/Throwable" 24 "java/lang/Throwable" "suppressedExceptions" "Ljava/util/List;" ∈ TB := tb_of (i := 667) (by decide +kernel) rfl
theorem kw_676 : Cond.methodLink "ParagraphWalk" 143 ⟨"ParagraphWalk$Scene", "valueOf", "(I)J"⟩ ∈ TB := tb_of (i := 676) (by decide +kernel) rfl
theorem kw_677 : Cond.classLink "ParagraphWalkLaw" 24 "ParagraphWalkModel" ∈ TB := tb_of (i := 677) (by decide +kernel) rfl
theorem kw_678 : Cond.instantiable "ParagraphWalkModel" 28 ∈ TB := tb_of (i := 678) (by decide +kernel) rfl
theorem kw_679 : Cond.methodLink "ParagraphWalkLaw" 26 ⟨"ParagraphWalkModel", "<init>", "(J)V"⟩ ∈ TB := tb_of (i := 679) (by decide +kernel) rfl
theorem kw_680 : Cond.instanceMethod ⟨"ParagraphWalkModel", "<init>", "(J)V"⟩ ∈ TB := tb_of (i := 680) (by decide +kernel) rfl
theorem kw_681 : Cond.code ⟨"ParagraphWalkModel", "<init>", "(J)V"⟩ prog_11_method_1_code 3 none ∈ TB := tb_of (i := 681) (by decide +kernel) rfl
theorem kw_682 : Cond.methodLink "ParagraphWalkModel" 1 ⟨"java/lang/Object", "<init>", "()V"⟩ ∈ TB := tb_of (i := 682) (by decide +kernel) rfl
theorem kw_683 : Cond.methodLink "ParagraphWalkModel" 53 ⟨"ParagraphWalkModel", "held", "(J)J"⟩ ∈ TB := tb_of (i := 683) (by decide +kernel) rfl
theorem kw_684 : Cond.static ⟨"ParagraphWalkModel", "held", "(J)J"⟩ ∈ TB := tb_of (i := 684) (by decide +kernel) rfl
theorem kw_685 : Cond.code ⟨"ParagraphWalkModel", "held", "(J)J"⟩ prog_11_method_2_code 2 (some .long) ∈ TB := tb_of (i := 685) (by decide +kernel) rfl
theorem kw_686 : Cond.constantLong "ParagraphWalkModel" 61 1000 ∈ TB := tb_of (i := 686) (by decide +kernel) rfl
theorem kw_687 : Cond.fieldLink "ParagraphWalkModel" 63 "ParagraphWalkModel" "thrown" "I" ∈ TB := tb_of (i := 687) (by decide +kernel) rfl
theorem kw_688 : Cond.fieldLink "ParagraphWalkModel" 57 "ParagraphWalkModel" "steps" "J" ∈ TB := tb_of (i := 688) (by decide +kernel) rfl
theorem kw_689 : Cond.fieldLink "ParagraphWalkModel" 69 "ParagraphWalkModel" "cells" "I" ∈ TB := tb_of (i := 689) (by decide +kernel) rfl
theorem kw_690 : Cond.fieldLink "ParagraphWalkModel" 76 "ParagraphWalkModel" "nodes" "I" ∈ TB := tb_of (i := 690) (by decide +kernel) rfl
theorem kw_691 : Cond.fieldLink "ParagraphWalkModel" 97 "ParagraphWalkModel" "paragraphs" "I" ∈ TB := tb_of (i := 691) (by decide +kernel) rfl
theorem kw_692 : Cond.fieldLink "ParagraphWalkModel" 100 "ParagraphWalkModel" "waiting" "I" ∈ TB := tb_of (i := 692) (by decide +kernel) rfl
theorem kw_693 : Cond.fieldLink "ParagraphWalkModel" 7 "ParagraphWalkModel" "digits" "[I" ∈ TB := tb_of (i := 693) (by decide +kernel) rfl
theorem kw_694 : Cond.fieldLink "ParagraphWalkModel" 13 "ParagraphWalkModel" "says" "[J" ∈ TB := tb_of (i := 694) (by decide +kernel) rfl
theorem kw_695 : Cond.fieldLink "ParagraphWalkModel" 17 "ParagraphWalkModel" "kind" "[I" ∈ TB := tb_of (i := 695) (by decide +kernel) rfl
theorem kw_696 : Cond.fieldLink "ParagraphWalkModel" 20 "ParagraphWalkModel" "one" "[I" ∈ TB := tb_of (i := 696) (by decide +kernel) rfl
theorem kw_697 : Cond.fieldLink "ParagraphWalkModel" 23 "ParagraphWalkModel" "two" "[I" ∈ TB := tb_of (i := 697) (by decide +kernel) rfl
theorem kw_698 : Cond.fieldLink "ParagraphWalkModel" 26 "ParagraphWalkModel" "weight" "[I" ∈ TB := tb_of (i := 698) (by decide +kernel) rfl
theorem kw_699 : Cond.fieldLink "ParagraphWalkModel" 29 "ParagraphWalkModel" "answers" "[I" ∈ TB := tb_of (i := 699) (by decide +kernel) rfl
theorem kw_700 : Cond.fieldLink "ParagraphWalkModel" 32 "ParagraphWalkModel" "answer" "[I" ∈ TB := tb_of (i := 700) (by decide +kernel) rfl
theorem kw_701 : Cond.fieldLink "ParagraphWalkModel" 35 "ParagraphWalkModel" "root" "[I" ∈ TB := tb_of (i := 701) (by decide +kernel) rfl
theorem kw_702 : Cond.fieldLink "ParagraphWalkModel" 38 "ParagraphWalkModel" "section" "[I" ∈ TB := tb_of (i := 702) (by decide +kernel) rfl
theorem kw_703 : Cond.fieldLink "ParagraphWalkModel" 122 "ParagraphWalkModel" "at" "I" ∈ TB := tb_of (i := 703) (by decide +kernel) rfl
theorem kw_704 : Cond.fieldLink "ParagraphWalkModel" 113 "ParagraphWalkModel" "high" "I" ∈ TB := tb_of (i := 704) (by decide +kernel) rfl
theorem kw_705 : Cond.fieldLink "ParagraphWalkModel" 160 "ParagraphWalkModel" "begun" "I" ∈ TB := tb_of (i := 705) (by decide +kernel) rfl
theorem kw_706 : Cond.fieldLink "ParagraphWalkModel" 119 "ParagraphWalkModel" "raised" "I" ∈ TB := tb_of (i := 706) (by decide +kernel) rfl
theorem kw_707 : Cond.fieldLink "ParagraphWalkModel" 157 "ParagraphWalkModel" "next" "I" ∈ TB := tb_of (i := 707) (by decide +kernel) rfl
theorem kw_708 : Cond.fieldLink "ParagraphWalkModel" 154 "ParagraphWalkModel" "isSpent" "Z" ∈ TB := tb_of (i := 708) (by decide +kernel) rfl
theorem kw_709 : Cond.fieldLink "ParagraphWalkModel" 116 "ParagraphWalkModel" "result" "J" ∈ TB := tb_of (i := 709) (by decide +kernel) rfl
theorem kw_710 : Cond.fieldLink "ParagraphWalkModel" 41 "ParagraphWalkModel" "pile" "[I" ∈ TB := tb_of (i := 710) (by decide +kernel) rfl
theorem kw_711 : Cond.fieldLink "ParagraphWalkModel" 44 "ParagraphWalkModel" "order" "[I" ∈ TB := tb_of (i := 711) (by decide +kernel) rfl
theorem kw_712 : Cond.fieldLink "ParagraphWalkModel" 47 "ParagraphWalkModel" "todo" "[I" ∈ TB := tb_of (i := 712) (by decide +kernel) rfl
theorem kw_713 : Cond.fieldLink "ParagraphWalkModel" 50 "ParagraphWalkModel" "values" "[J" ∈ TB := tb_of (i := 713) (by decide +kernel) rfl
theorem kw_714 : Cond.fieldLink "ParagraphWalkModel" 107 "ParagraphWalkModel" "fails" "Z" ∈ TB := tb_of (i := 714) (by decide +kernel) rfl
theorem kw_772 : Cond.methodLink "ParagraphWalkLaw" 56 ⟨"ParagraphWalkModel", "thrown", "()I"⟩ ∈ TB := tb_of (i := 772) (by decide +kernel) rfl
theorem kw_773 : Cond.instanceMethod ⟨"ParagraphWalkModel", "thrown", "()I"⟩ ∈ TB := tb_of (i := 773) (by decide +kernel) rfl
theorem kw_774 : Cond.selects "ParagraphWalkModel" ⟨"ParagraphWalkModel", "thrown", "()I"⟩ ⟨"ParagraphWalkModel", "thrown", "()I"⟩ ∈ TB := tb_of (i := 774) (by decide +kernel) rfl
theorem kw_775 : Cond.code ⟨"ParagraphWalkModel", "thrown", "()I"⟩ prog_11_method_3_code 1 (some .int) ∈ TB := tb_of (i := 775) (by decide +kernel) rfl
theorem kw_776 : Cond.methodLink "ParagraphWalkLaw" 32 ⟨"ParagraphWalkModel", "cell", "(IJ)I"⟩ ∈ TB := tb_of (i := 776) (by decide +kernel) rfl
theorem kw_777 : Cond.instanceMethod ⟨"ParagraphWalkModel", "cell", "(IJ)I"⟩ ∈ TB := tb_of (i := 777) (by decide +kernel) rfl
theorem kw_778 : Cond.selects "ParagraphWalkModel" ⟨"ParagraphWalkModel", "cell", "(IJ)I"⟩ ⟨"ParagraphWalkModel", "cell", "(IJ)I"⟩ ∈ TB := tb_of (i := 778) (by decide +kernel) rfl
theorem kw_779 : Cond.code ⟨"ParagraphWalkModel", "cell", "(IJ)I"⟩ prog_11_method_5_code 4 (some .int) ∈ TB := tb_of (i := 779) (by decide +kernel) rfl
theorem kw_780 : Cond.methodLink "ParagraphWalkModel" 72 ⟨"ParagraphWalkModel", "cut", "(IJ)J"⟩ ∈ TB := tb_of (i := 780) (by decide +kernel) rfl
theorem kw_781 : Cond.static ⟨"ParagraphWalkModel", "cut", "(IJ)J"⟩ ∈ TB := tb_of (i := 781) (by decide +kernel) rfl
theorem kw_782 : Cond.code ⟨"ParagraphWalkModel", "cut", "(IJ)J"⟩ prog_11_method_4_code 6 (some .long) ∈ TB := tb_of (i := 782) (by decide +kernel) rfl
theorem kw_783 : Cond.constantLong "ParagraphWalkModel" 67 10 ∈ TB := tb_of (i := 783) (by decide +kernel) rfl
theorem kw_784 : Cond.methodLink "ParagraphWalkLaw" 37 ⟨"ParagraphWalkModel", "node", "(III)I"⟩ ∈ TB := tb_of (i := 784) (by decide +kernel) rfl
theorem kw_785 : Cond.instanceMethod ⟨"ParagraphWalkModel", "node", "(III)I"⟩ ∈ TB := tb_of (i := 785) (by decide +kernel) rfl
theorem kw_786 : Cond.selects "ParagraphWalkModel" ⟨"ParagraphWalkModel", "node", "(III)I"⟩ ⟨"ParagraphWalkModel", "node", "(III)I"⟩ ∈ TB := tb_of (i := 786) (by decide +kernel) rfl
theorem kw_787 : Cond.code ⟨"ParagraphWalkModel", "node", "(III)I"⟩ prog_11_method_11_code 5 (some .int) ∈ TB := tb_of (i := 787) (by decide +kernel) rfl
theorem kw_788 : Cond.methodLink "ParagraphWalkModel" 93 ⟨"ParagraphWalkModel", "needs", "(III)Z"⟩ ∈ TB := tb_of (i := 788) (by decide +kernel) rfl
theorem kw_790 : Cond.instanceMethod ⟨"ParagraphWalkModel", "needs", "(III)Z"⟩ ∈ TB := tb_of (i := 790) (by decide +kernel) rfl
theorem kw_791 : Cond.code ⟨"ParagraphWalkModel", "needs", "(III)Z"⟩ prog_11_method_10_code 4 (some .boolean) ∈ TB := tb_of (i := 791) (by decide +kernel) rfl
theorem kw_792 : Cond.methodLink "ParagraphWalkModel" 79 ⟨"ParagraphWalkModel", "isCell", "(I)Z"⟩ ∈ TB := tb_of (i := 792) (by decide +kernel) rfl
theorem kw_794 : Cond.instanceMethod ⟨"ParagraphWalkModel", "isCell", "(I)Z"⟩ ∈ TB := tb_of (i := 794) (by decide +kernel) rfl
theorem kw_795 : Cond.code ⟨"ParagraphWalkModel", "isCell", "(I)Z"⟩ prog_11_method_9_code 2 (some .boolean) ∈ TB := tb_of (i := 795) (by decide +kernel) rfl
theorem kw_796 : Cond.methodLink "ParagraphWalkModel" 83 ⟨"ParagraphWalkModel", "isValue", "(I)Z"⟩ ∈ TB := tb_of (i := 796) (by decide +kernel) rfl
theorem kw_798 : Cond.instanceMethod ⟨"ParagraphWalkModel", "isValue", "(I)Z"⟩ ∈ TB := tb_of (i := 798) (by decide +kernel) rfl
theorem kw_799 : Cond.code ⟨"ParagraphWalkModel", "isValue", "(I)Z"⟩ prog_11_method_7_code 2 (some .boolean) ∈ TB := tb_of (i := 799) (by decide +kernel) rfl
theorem kw_800 : Cond.methodLink "ParagraphWalkModel" 86 ⟨"ParagraphWalkModel", "isStatement", "(I)Z"⟩ ∈ TB := tb_of (i := 800) (by decide +kernel) rfl
theorem kw_802 : Cond.instanceMethod ⟨"ParagraphWalkModel", "isStatement", "(I)Z"⟩ ∈ TB := tb_of (i := 802) (by decide +kernel) rfl
theorem kw_803 : Cond.code ⟨"ParagraphWalkModel", "isStatement", "(I)Z"⟩ prog_11_method_8_code 2 (some .boolean) ∈ TB := tb_of (i := 803) (by decide +kernel) rfl
theorem kw_804 : Cond.methodLink "ParagraphWalkModel" 89 ⟨"ParagraphWalkModel", "isKind", "(II)Z"⟩ ∈ TB := tb_of (i := 804) (by decide +kernel) rfl
theorem kw_806 : Cond.instanceMethod ⟨"ParagraphWalkModel", "isKind", "(II)Z"⟩ ∈ TB := tb_of (i := 806) (by decide +kernel) rfl
theorem kw_807 : Cond.code ⟨"ParagraphWalkModel", "isKind", "(II)Z"⟩ prog_11_method_6_code 3 (some .boolean) ∈ TB := tb_of (i := 807) (by decide +kernel) rfl
theorem kw_808 : Cond.methodLink "ParagraphWalkLaw" 42 ⟨"ParagraphWalkModel", "paragraph", "(II)I"⟩ ∈ TB := tb_of (i := 808) (by decide +kernel) rfl
theorem kw_809 : Cond.instanceMethod ⟨"ParagraphWalkModel", "paragraph", "(II)I"⟩ ∈ TB := tb_of (i := 809) (by decide +kernel) rfl
theorem kw_810 : Cond.selects "ParagraphWalkModel" ⟨"ParagraphWalkModel", "paragraph", "(II)I"⟩ ⟨"ParagraphWalkModel", "paragraph", "(II)I"⟩ ∈ TB := tb_of (i := 810) (by decide +kernel) rfl
theorem kw_811 : Cond.code ⟨"ParagraphWalkModel", "paragraph", "(II)I"⟩ prog_11_method_12_code 3 (some .int) ∈ TB := tb_of (i := 811) (by decide +kernel) rfl
theorem kw_812 : Cond.methodLink "ParagraphWalkLaw" 46 ⟨"ParagraphWalkModel", "answer", "(II)I"⟩ ∈ TB := tb_of (i := 812) (by decide +kernel) rfl
theorem kw_813 : Cond.instanceMethod ⟨"ParagraphWalkModel", "answer", "(II)I"⟩ ∈ TB := tb_of (i := 813) (by decide +kernel) rfl
theorem kw_814 : Cond.selects "ParagraphWalkModel" ⟨"ParagraphWalkModel", "answer", "(II)I"⟩ ⟨"ParagraphWalkModel", "answer", "(II)I"⟩ ∈ TB := tb_of (i := 814) (by decide +kernel) rfl
theorem kw_815 : Cond.code ⟨"ParagraphWalkModel", "answer", "(II)I"⟩ prog_11_method_13_code 3 (some .int) ∈ TB := tb_of (i := 815) (by decide +kernel) rfl
theorem kw_816 : Cond.methodLink "ParagraphWalkLaw" 51 ⟨"ParagraphWalkModel", "run", "(I)I"⟩ ∈ TB := tb_of (i := 816) (by decide +kernel) rfl
theorem kw_817 : Cond.instanceMethod ⟨"ParagraphWalkModel", "run", "(I)I"⟩ ∈ TB := tb_of (i := 817) (by decide +kernel) rfl
theorem kw_818 : Cond.selects "ParagraphWalkModel" ⟨"ParagraphWalkModel", "run", "(I)I"⟩ ⟨"ParagraphWalkModel", "run", "(I)I"⟩ ∈ TB := tb_of (i := 818) (by decide +kernel) rfl
theorem kw_819 : Cond.code ⟨"ParagraphWalkModel", "run", "(I)I"⟩ prog_11_method_24_code 2 (some .int) ∈ TB := tb_of (i := 819) (by decide +kernel) rfl
theorem kw_820 : Cond.methodLink "ParagraphWalkModel" 166 ⟨"ParagraphWalkModel", "walk", "(J)I"⟩ ∈ TB := tb_of (i := 820) (by decide +kernel) rfl
theorem kw_822 : Cond.instanceMethod ⟨"ParagraphWalkModel", "walk", "(J)I"⟩ ∈ TB := tb_of (i := 822) (by decide +kernel) rfl
theorem kw_823 : Cond.code ⟨"ParagraphWalkModel", "walk", "(J)I"⟩ prog_11_method_23_code 7 (some .int) ∈ TB := tb_of (i := 823) (by decide +kernel) rfl
theorem kw_824 : Cond.methodLink "ParagraphWalkModel" 147 ⟨"ParagraphWalkModel", "over", "(J)I"⟩ ∈ TB := tb_of (i := 824) (by decide +kernel) rfl
theorem kw_826 : Cond.instanceMethod ⟨"ParagraphWalkModel", "over", "(J)I"⟩ ∈ TB := tb_of (i := 826) (by decide +kernel) rfl
theorem kw_827 : Cond.code ⟨"ParagraphWalkModel", "over", "(J)I"⟩ prog_11_method_17_code 3 (some .int) ∈ TB := tb_of (i := 827) (by decide +kernel) rfl
theorem kw_828 : Cond.methodLink "ParagraphWalkModel" 129 ⟨"ParagraphWalkModel", "push", "(I)V"⟩ ∈ TB := tb_of (i := 828) (by decide +kernel) rfl
theorem kw_830 : Cond.instanceMethod ⟨"ParagraphWalkModel", "push", "(I)V"⟩ ∈ TB := tb_of (i := 830) (by decide +kernel) rfl
theorem kw_831 : Cond.code ⟨"ParagraphWalkModel", "push", "(I)V"⟩ prog_11_method_16_code 2 none ∈ TB := tb_of (i := 831) (by decide +kernel) rfl
theorem kw_832 : Cond.methodLink "ParagraphWalkModel" 163 ⟨"ParagraphWalkModel", "act", "(I)I"⟩ ∈ TB := tb_of (i := 832) (by decide +kernel) rfl
theorem kw_834 : Cond.instanceMethod ⟨"ParagraphWalkModel", "act", "(I)I"⟩ ∈ TB := tb_of (i := 834) (by decide +kernel) rfl
theorem kw_835 : Cond.code ⟨"ParagraphWalkModel", "act", "(I)I"⟩ prog_11_method_22_code 7 (some .int) ∈ TB := tb_of (i := 835) (by decide +kernel) rfl
theorem kw_836 : Cond.methodLink "ParagraphWalkModel" 125 ⟨"ParagraphWalkModel", "value", "(I)J"⟩ ∈ TB := tb_of (i := 836) (by decide +kernel) rfl
theorem kw_838 : Cond.instanceMethod ⟨"ParagraphWalkModel", "value", "(I)J"⟩ ∈ TB := tb_of (i := 838) (by decide +kernel) rfl
theorem kw_839 : Cond.code ⟨"ParagraphWalkModel", "value", "(I)J"⟩ prog_11_method_14_code 5 (some .long) ∈ TB := tb_of (i := 839) (by decide +kernel) rfl
theorem kw_840 : Cond.methodLink "ParagraphWalkModel" 103 ⟨"ParagraphWalkModel", "done", "(IJJ)J"⟩ ∈ TB := tb_of (i := 840) (by decide +kernel) rfl
theorem kw_842 : Cond.instanceMethod ⟨"ParagraphWalkModel", "done", "(IJJ)J"⟩ ∈ TB := tb_of (i := 842) (by decide +kernel) rfl
theorem kw_843 : Cond.code ⟨"ParagraphWalkModel", "done", "(IJJ)J"⟩ prog_11_method_15_code 6 (some .long) ∈ TB := tb_of (i := 843) (by decide +kernel) rfl
theorem kw_844 : Cond.constantLong "ParagraphWalkModel" 111 (-1) ∈ TB := tb_of (i := 844) (by decide +kernel) rfl
theorem kw_845 : Cond.methodLink "ParagraphWalkModel" 137 ⟨"ParagraphWalkModel", "fitting", "(IJ)I"⟩ ∈ TB := tb_of (i := 845) (by decide +kernel) rfl
theorem kw_847 : Cond.instanceMethod ⟨"ParagraphWalkModel", "fitting", "(IJ)I"⟩ ∈ TB := tb_of (i := 847) (by decide +kernel) rfl
theorem kw_848 : Cond.code ⟨"ParagraphWalkModel", "fitting", "(IJ)I"⟩ prog_11_method_20_code 11 (some .int) ∈ TB := tb_of (i := 848) (by decide +kernel) rfl
theorem kw_849 : Cond.methodLink "ParagraphWalkModel" 133 ⟨"ParagraphWalkModel", "raise", "(I)I"⟩ ∈ TB := tb_of (i := 849) (by decide +kernel) rfl
theorem kw_851 : Cond.instanceMethod ⟨"ParagraphWalkModel", "raise", "(I)I"⟩ ∈ TB := tb_of (i := 851) (by decide +kernel) rfl
theorem kw_852 : Cond.code ⟨"ParagraphWalkModel", "raise", "(I)I"⟩ prog_11_method_18_code 2 (some .int) ∈ TB := tb_of (i := 852) (by decide +kernel) rfl
theorem kw_853 : Cond.methodLink "ParagraphWalkModel" 141 ⟨"ParagraphWalkModel", "goTo", "(J)V"⟩ ∈ TB := tb_of (i := 853) (by decide +kernel) rfl
theorem kw_855 : Cond.instanceMethod ⟨"ParagraphWalkModel", "goTo", "(J)V"⟩ ∈ TB := tb_of (i := 855) (by decide +kernel) rfl
theorem kw_856 : Cond.code ⟨"ParagraphWalkModel", "goTo", "(J)V"⟩ prog_11_method_19_code 3 none ∈ TB := tb_of (i := 856) (by decide +kernel) rfl
theorem kw_857 : Cond.constantLong "ParagraphWalkModel" 145 30 ∈ TB := tb_of (i := 857) (by decide +kernel) rfl
theorem kw_858 : Cond.methodLink "ParagraphWalkModel" 151 ⟨"ParagraphWalkModel", "answered", "(I)I"⟩ ∈ TB := tb_of (i := 858) (by decide +kernel) rfl
theorem kw_860 : Cond.instanceMethod ⟨"ParagraphWalkModel", "answered", "(I)I"⟩ ∈ TB := tb_of (i := 860) (by decide +kernel) rfl
theorem kw_861 : Cond.code ⟨"ParagraphWalkModel", "answered", "(I)I"⟩ prog_11_method_21_code 5 (some .int) ∈ TB := tb_of (i := 861) (by decide +kernel) rfl
theorem kw_862 : Cond.methodLink "ParagraphWalkLaw" 80 ⟨"ParagraphWalkModel", "goOn", "(J)I"⟩ ∈ TB := tb_of (i := 862) (by decide +kernel) rfl
theorem kw_863 : Cond.instanceMethod ⟨"ParagraphWalkModel", "goOn", "(J)I"⟩ ∈ TB := tb_of (i := 863) (by decide +kernel) rfl
theorem kw_864 : Cond.selects "ParagraphWalkModel" ⟨"ParagraphWalkModel", "goOn", "(J)I"⟩ ⟨"ParagraphWalkModel", "goOn", "(J)I"⟩ ∈ TB := tb_of (i := 864) (by decide +kernel) rfl
theorem kw_865 : Cond.code ⟨"ParagraphWalkModel", "goOn", "(J)I"⟩ prog_11_method_25_code 3 (some .int) ∈ TB := tb_of (i := 865) (by decide +kernel) rfl
theorem kw_866 : Cond.methodLink "ParagraphWalkLaw" 55 ⟨"ParagraphWalkModel", "get", "(I)J"⟩ ∈ TB := tb_of (i := 866) (by decide +kernel) rfl
theorem kw_867 : Cond.instanceMethod ⟨"ParagraphWalkModel", "get", "(I)J"⟩ ∈ TB := tb_of (i := 867) (by decide +kernel) rfl
theorem kw_868 : Cond.selects "ParagraphWalkModel" ⟨"ParagraphWalkModel", "get", "(I)J"⟩ ⟨"ParagraphWalkModel", "get", "(I)J"⟩ ∈ TB := tb_of (i := 868) (by decide +kernel) rfl
theorem kw_869 : Cond.code ⟨"ParagraphWalkModel", "get", "(I)J"⟩ prog_11_method_26_code 2 (some .long) ∈ TB := tb_of (i := 869) (by decide +kernel) rfl
theorem kw_870 : Cond.methodLink "ParagraphWalkLaw" 63 ⟨"ParagraphWalkModel", "order", "(I)I"⟩ ∈ TB := tb_of (i := 870) (by decide +kernel) rfl
theorem kw_871 : Cond.instanceMethod ⟨"ParagraphWalkModel", "order", "(I)I"⟩ ∈ TB := tb_of (i := 871) (by decide +kernel) rfl
theorem kw_872 : Cond.selects "ParagraphWalkModel" ⟨"ParagraphWalkModel", "order", "(I)I"⟩ ⟨"ParagraphWalkModel", "order", "(I)I"⟩ ∈ TB := tb_of (i := 872) (by decide +kernel) rfl
theorem kw_873 : Cond.code ⟨"ParagraphWalkModel", "order", "(I)I"⟩ prog_11_method_27_code 2 (some .int) ∈ TB := tb_of (i := 873) (by decide +kernel) rfl
theorem kw_874 : Cond.methodLink "ParagraphWalkLaw" 67 ⟨"ParagraphWalkModel", "second", "(I)I"⟩ ∈ TB := tb_of (i := 874) (by decide +kernel) rfl
theorem kw_875 : Cond.instanceMethod ⟨"ParagraphWalkModel", "second", "(I)I"⟩ ∈ TB := tb_of (i := 875) (by decide +kernel) rfl
theorem kw_876 : Cond.selects "ParagraphWalkModel" ⟨"ParagraphWalkModel", "second", "(I)I"⟩ ⟨"ParagraphWalkModel", "second", "(I)I"⟩ ∈ TB := tb_of (i := 876) (by decide +kernel) rfl
theorem kw_877 : Cond.code ⟨"ParagraphWalkModel", "second", "(I)I"⟩ prog_11_method_28_code 2 (some .int) ∈ TB := tb_of (i := 877) (by decide +kernel) rfl
theorem kw_878 : Cond.methodLink "ParagraphWalkLaw" 71 ⟨"ParagraphWalkModel", "place", "()I"⟩ ∈ TB := tb_of (i := 878) (by decide +kernel) rfl
theorem kw_879 : Cond.instanceMethod ⟨"ParagraphWalkModel", "place", "()I"⟩ ∈ TB := tb_of (i := 879) (by decide +kernel) rfl
theorem kw_880 : Cond.selects "ParagraphWalkModel" ⟨"ParagraphWalkModel", "place", "()I"⟩ ⟨"ParagraphWalkModel", "place", "()I"⟩ ∈ TB := tb_of (i := 880) (by decide +kernel) rfl
theorem kw_881 : Cond.code ⟨"ParagraphWalkModel", "place", "()I"⟩ prog_11_method_29_code 1 (some .int) ∈ TB := tb_of (i := 881) (by decide +kernel) rfl
theorem kw_882 : Cond.methodLink "ParagraphWalkLaw" 75 ⟨"ParagraphWalkModel", "raised", "()I"⟩ ∈ TB := tb_of (i := 882) (by decide +kernel) rfl
theorem kw_883 : Cond.instanceMethod ⟨"ParagraphWalkModel", "raised", "()I"⟩ ∈ TB := tb_of (i := 883) (by decide +kernel) rfl
theorem kw_884 : Cond.selects "ParagraphWalkModel" ⟨"ParagraphWalkModel", "raised", "()I"⟩ ⟨"ParagraphWalkModel", "raised", "()I"⟩ ∈ TB := tb_of (i := 884) (by decide +kernel) rfl
theorem kw_885 : Cond.code ⟨"ParagraphWalkModel", "raised", "()I"⟩ prog_11_method_30_code 1 (some .int) ∈ TB := tb_of (i := 885) (by decide +kernel) rfl
theorem kw_886 : Cond.methodLink "ParagraphWalkLaw" 85 ⟨"ParagraphWalkModel", "result", "()J"⟩ ∈ TB := tb_of (i := 886) (by decide +kernel) rfl
theorem kw_887 : Cond.instanceMethod ⟨"ParagraphWalkModel", "result", "()J"⟩ ∈ TB := tb_of (i := 887) (by decide +kernel) rfl
theorem kw_888 : Cond.selects "ParagraphWalkModel" ⟨"ParagraphWalkModel", "result", "()J"⟩ ⟨"ParagraphWalkModel", "result", "()J"⟩ ∈ TB := tb_of (i := 888) (by decide +kernel) rfl
theorem kw_889 : Cond.code ⟨"ParagraphWalkModel", "result", "()J"⟩ prog_11_method_31_code 1 (some .long) ∈ TB := tb_of (i := 889) (by decide +kernel) rfl
theorem kw_890 : Cond.methodLink "ParagraphWalkLaw" 89 ⟨"ParagraphWalkModel", "count", "(I)I"⟩ ∈ TB := tb_of (i := 890) (by decide +kernel) rfl
theorem kw_891 : Cond.instanceMethod ⟨"ParagraphWalkModel", "count", "(I)I"⟩ ∈ TB := tb_of (i := 891) (by decide +kernel) rfl
theorem kw_892 : Cond.selects "ParagraphWalkModel" ⟨"ParagraphWalkModel", "count", "(I)I"⟩ ⟨"ParagraphWalkModel", "count", "(I)I"⟩ ∈ TB := tb_of (i := 892) (by decide +kernel) rfl
theorem kw_893 : Cond.code ⟨"ParagraphWalkModel", "count", "(I)I"⟩ prog_11_method_32_code 2 (some .int) ∈ TB := tb_of (i := 893) (by decide +kernel) rfl
theorem kw_894 : Cond.constantLong "ParagraphWalkLaw" 27 4294967295 ∈ TB := tb_of (i := 894) (by decide +kernel) rfl
