abbrev cWk_init : ByteArray := prog_8_method_1_code
def yWk_init : MethodName := ⟨RWk, "<init>", "(LParagraphWalk$Nodes;LParagraphWalk$Paragraphs;LParagraphWalk$Journey;LParagraphWalk$Stepper;)V"⟩
def wsWk_init : List Cond := .code yWk_init cWk_init 5 none :: TB
theorem dWk_init_0 : decode cWk_init 0 = .ok (.aload_n 0, 1) := by decide +kernel
theorem dWk_init_1 : decode cWk_init 1 = .ok (.invokespecial 3, 3) := by decide +kernel
theorem dWk_init_4 : decode cWk_init 4 = .ok (.aload_n 0, 1) := by decide +kernel
theorem dWk_init_5 : decode cWk_init 5 = .ok (.sipush 202, 3) := by decide +kernel
theorem dWk_init_8 : decode cWk_init 8 = .ok (.newarray .int, 2) := by decide +kernel
theorem dWk_init_10 : decode cWk_init 10 = .ok (.putfield 9, 3) := by decide +kernel
theorem dWk_init_13 : decode cWk_init 13 = .ok (.aload_n 0, 1) := by decide +kernel
theorem dWk_init_14 : decode cWk_init 14 = .ok (.aload_n 1, 1) := by decide +kernel
theorem dWk_init_15 : decode cWk_init 15 = .ok (.putfield 15, 3) := by decide +kernel
theorem dWk_init_18 : decode cWk_init 18 = .ok (.aload_n 0, 1) := by decide +kernel
theorem dWk_init_19 : decode cWk_init 19 = .ok (.aload_n 2, 1) := by decide +kernel
theorem dWk_init_20 : decode cWk_init 20 = .ok (.putfield 19, 3) := by decide +kernel
theorem dWk_init_23 : decode cWk_init 23 = .ok (.aload_n 0, 1) := by decide +kernel
theorem dWk_init_24 : decode cWk_init 24 = .ok (.aload_n 3, 1) := by decide +kernel
theorem dWk_init_25 : decode cWk_init 25 = .ok (.putfield 23, 3) := by decide +kernel
theorem dWk_init_28 : decode cWk_init 28 = .ok (.aload_n 0, 1) := by decide +kernel
theorem dWk_init_29 : decode cWk_init 29 = .ok (.aload 4, 2) := by decide +kernel
theorem dWk_init_31 : decode cWk_init 31 = .ok (.putfield 27, 3) := by decide +kernel
theorem dWk_init_34 : decode cWk_init 34 = .ok (.return_, 1) := by decide +kernel
abbrev cWk_startAt : ByteArray := prog_8_method_2_code
def yWk_startAt : MethodName := ⟨RWk, "startAt", "(I)V"⟩
def wsWk_startAt : List Cond := .code yWk_startAt cWk_startAt 2 none :: TB
theorem dWk_startAt_0 : decode cWk_startAt 0 = .ok (.aload_n 0, 1) := by decide +kernel
theorem dWk_startAt_1 : decode cWk_startAt 1 = .ok (.iconst 0, 1) := by decide +kernel
theorem dWk_startAt_2 : decode cWk_startAt 2 = .ok (.putfield 31, 3) := by decide +kernel
theorem dWk_startAt_5 : decode cWk_startAt 5 = .ok (.aload_n 0, 1) := by decide +kernel
theorem dWk_startAt_6 : decode cWk_startAt 6 = .ok (.iload_n 1, 1) := by decide +kernel
theorem dWk_startAt_7 : decode cWk_startAt 7 = .ok (.iconst 1, 1) := by decide +kernel
theorem dWk_startAt_8 : decode cWk_startAt 8 = .ok (.isub, 1) := by decide +kernel
theorem dWk_startAt_9 : decode cWk_startAt 9 = .ok (.putfield 35, 3) := by decide +kernel
theorem dWk_startAt_12 : decode cWk_startAt 12 = .ok (.return_, 1) := by decide +kernel
abbrev cWk_goAlong : ByteArray := prog_8_method_3_code
def yWk_goAlong : MethodName := ⟨RWk, "goAlong", "()V"⟩
def wsWk_goAlong : List Cond := .code yWk_goAlong cWk_goAlong 2 none :: TB
theorem dWk_goAlong_0 : decode cWk_goAlong 0 = .ok (.iconst 0, 1) := by decide +kernel
theorem dWk_goAlong_1 : decode cWk_goAlong 1 = .ok (.istore_n 1, 1) := by decide +kernel
theorem dWk_goAlong_2 : decode cWk_goAlong 2 = .ok (.iload_n 1, 1) := by decide +kernel
theorem dWk_goAlong_3 : decode cWk_goAlong 3 = .ok (.ldc 38, 2) := by decide +kernel
theorem dWk_goAlong_5 : decode cWk_goAlong 5 = .ok (.if_icmp .ge 42, 3) := by decide +kernel
theorem dWk_goAlong_8 : decode cWk_goAlong 8 = .ok (.aload_n 0, 1) := by decide +kernel
theorem dWk_goAlong_9 : decode cWk_goAlong 9 = .ok (.getfield 23, 3) := by decide +kernel
theorem dWk_goAlong_12 : decode cWk_goAlong 12 = .ok (.getfield 39, 3) := by decide +kernel
theorem dWk_goAlong_15 : decode cWk_goAlong 15 = .ok (.iconst 3, 1) := by decide +kernel
theorem dWk_goAlong_16 : decode cWk_goAlong 16 = .ok (.if_icmp .ne 31, 3) := by decide +kernel
theorem dWk_goAlong_19 : decode cWk_goAlong 19 = .ok (.aload_n 0, 1) := by decide +kernel
theorem dWk_goAlong_20 : decode cWk_goAlong 20 = .ok (.getfield 31, 3) := by decide +kernel
theorem dWk_goAlong_23 : decode cWk_goAlong 23 = .ok (.ifCond .ne 10, 3) := by decide +kernel
theorem dWk_goAlong_26 : decode cWk_goAlong 26 = .ok (.aload_n 0, 1) := by decide +kernel
theorem dWk_goAlong_27 : decode cWk_goAlong 27 = .ok (.invokevirtual 44, 3) := by decide +kernel
theorem dWk_goAlong_30 : decode cWk_goAlong 30 = .ok (.goto 11, 3) := by decide +kernel
theorem dWk_goAlong_33 : decode cWk_goAlong 33 = .ok (.aload_n 0, 1) := by decide +kernel
theorem dWk_goAlong_34 : decode cWk_goAlong 34 = .ok (.aload_n 0, 1) := by decide +kernel
theorem dWk_goAlong_35 : decode cWk_goAlong 35 = .ok (.invokevirtual 47, 3) := by decide +kernel
theorem dWk_goAlong_38 : decode cWk_goAlong 38 = .ok (.invokevirtual 51, 3) := by decide +kernel
theorem dWk_goAlong_41 : decode cWk_goAlong 41 = .ok (.iinc 1 1, 3) := by decide +kernel
theorem dWk_goAlong_44 : decode cWk_goAlong 44 = .ok (.goto (-42), 3) := by decide +kernel
theorem dWk_goAlong_47 : decode cWk_goAlong 47 = .ok (.return_, 1) := by decide +kernel
abbrev cWk_enterNextParagraph : ByteArray := prog_8_method_4_code
def yWk_enterNextParagraph : MethodName := ⟨RWk, "enterNextParagraph", "()V"⟩
def wsWk_enterNextParagraph : List Cond := .code yWk_enterNextParagraph cWk_enterNextParagraph 2 none :: TB
theorem dWk_enterNextParagraph_0 : decode cWk_enterNextParagraph 0 = .ok (.aload_n 0, 1) := by decide +kernel
theorem dWk_enterNextParagraph_1 : decode cWk_enterNextParagraph 1 = .ok (.dup, 1) := by decide +kernel
theorem dWk_enterNextParagraph_2 : decode cWk_enterNextParagraph 2 = .ok (.getfield 35, 3) := by decide +kernel
theorem dWk_enterNextParagraph_5 : decode cWk_enterNextParagraph 5 = .ok (.iconst 1, 1) := by decide +kernel
theorem dWk_enterNextParagraph_6 : decode cWk_enterNextParagraph 6 = .ok (.iadd, 1) := by decide +kernel
theorem dWk_enterNextParagraph_7 : decode cWk_enterNextParagraph 7 = .ok (.putfield 35, 3) := by decide +kernel
theorem dWk_enterNextParagraph_10 : decode cWk_enterNextParagraph 10 = .ok (.aload_n 0, 1) := by decide +kernel
theorem dWk_enterNextParagraph_11 : decode cWk_enterNextParagraph 11 = .ok (.getfield 19, 3) := by decide +kernel
theorem dWk_enterNextParagraph_14 : decode cWk_enterNextParagraph 14 = .ok (.aload_n 0, 1) := by decide +kernel
theorem dWk_enterNextParagraph_15 : decode cWk_enterNextParagraph 15 = .ok (.getfield 35, 3) := by decide +kernel
theorem dWk_enterNextParagraph_18 : decode cWk_enterNextParagraph 18 = .ok (.invokevirtual 55, 3) := by decide +kernel
theorem dWk_enterNextParagraph_21 : decode cWk_enterNextParagraph 21 = .ok (.ifCond .ne 12, 3) := by decide +kernel
theorem dWk_enterNextParagraph_24 : decode cWk_enterNextParagraph 24 = .ok (.aload_n 0, 1) := by decide +kernel
theorem dWk_enterNextParagraph_25 : decode cWk_enterNextParagraph 25 = .ok (.getfield 23, 3) := by decide +kernel
theorem dWk_enterNextParagraph_28 : decode cWk_enterNextParagraph 28 = .ok (.lconst 0, 1) := by decide +kernel
theorem dWk_enterNextParagraph_29 : decode cWk_enterNextParagraph 29 = .ok (.invokevirtual 61, 3) := by decide +kernel
theorem dWk_enterNextParagraph_32 : decode cWk_enterNextParagraph 32 = .ok (.return_, 1) := by decide +kernel
theorem dWk_enterNextParagraph_33 : decode cWk_enterNextParagraph 33 = .ok (.aload_n 0, 1) := by decide +kernel
theorem dWk_enterNextParagraph_34 : decode cWk_enterNextParagraph 34 = .ok (.getfield 19, 3) := by decide +kernel
theorem dWk_enterNextParagraph_37 : decode cWk_enterNextParagraph 37 = .ok (.aload_n 0, 1) := by decide +kernel
theorem dWk_enterNextParagraph_38 : decode cWk_enterNextParagraph 38 = .ok (.getfield 35, 3) := by decide +kernel
theorem dWk_enterNextParagraph_41 : decode cWk_enterNextParagraph 41 = .ok (.invokevirtual 65, 3) := by decide +kernel
theorem dWk_enterNextParagraph_44 : decode cWk_enterNextParagraph 44 = .ok (.istore_n 1, 1) := by decide +kernel
theorem dWk_enterNextParagraph_45 : decode cWk_enterNextParagraph 45 = .ok (.iload_n 1, 1) := by decide +kernel
theorem dWk_enterNextParagraph_46 : decode cWk_enterNextParagraph 46 = .ok (.ifCond .eq 8, 3) := by decide +kernel
theorem dWk_enterNextParagraph_49 : decode cWk_enterNextParagraph 49 = .ok (.aload_n 0, 1) := by decide +kernel
theorem dWk_enterNextParagraph_50 : decode cWk_enterNextParagraph 50 = .ok (.iload_n 1, 1) := by decide +kernel
theorem dWk_enterNextParagraph_51 : decode cWk_enterNextParagraph 51 = .ok (.invokevirtual 69, 3) := by decide +kernel
theorem dWk_enterNextParagraph_54 : decode cWk_enterNextParagraph 54 = .ok (.return_, 1) := by decide +kernel
abbrev cWk_takeUp : ByteArray := prog_8_method_5_code
def yWk_takeUp : MethodName := ⟨RWk, "takeUp", "(I)V"⟩
def wsWk_takeUp : List Cond := .code yWk_takeUp cWk_takeUp 3 none :: TB
theorem dWk_takeUp_0 : decode cWk_takeUp 0 = .ok (.iload_n 1, 1) := by decide +kernel
theorem dWk_takeUp_1 : decode cWk_takeUp 1 = .ok (.ifCond .ne 4, 3) := by decide +kernel
theorem dWk_takeUp_4 : decode cWk_takeUp 4 = .ok (.return_, 1) := by decide +kernel
theorem dWk_takeUp_5 : decode cWk_takeUp 5 = .ok (.aload_n 0, 1) := by decide +kernel
theorem dWk_takeUp_6 : decode cWk_takeUp 6 = .ok (.getfield 15, 3) := by decide +kernel
theorem dWk_takeUp_9 : decode cWk_takeUp 9 = .ok (.iload_n 1, 1) := by decide +kernel
theorem dWk_takeUp_10 : decode cWk_takeUp 10 = .ok (.invokevirtual 72, 3) := by decide +kernel
theorem dWk_takeUp_13 : decode cWk_takeUp 13 = .ok (.istore_n 2, 1) := by decide +kernel
theorem dWk_takeUp_14 : decode cWk_takeUp 14 = .ok (.iload_n 2, 1) := by decide +kernel
theorem dWk_takeUp_15 : decode cWk_takeUp 15 = .ok (.bipush 10, 2) := by decide +kernel
theorem dWk_takeUp_17 : decode cWk_takeUp 17 = .ok (.if_icmp .ne 30, 3) := by decide +kernel
theorem dWk_takeUp_20 : decode cWk_takeUp 20 = .ok (.aload_n 0, 1) := by decide +kernel
theorem dWk_takeUp_21 : decode cWk_takeUp 21 = .ok (.aload_n 0, 1) := by decide +kernel
theorem dWk_takeUp_22 : decode cWk_takeUp 22 = .ok (.getfield 15, 3) := by decide +kernel
theorem dWk_takeUp_25 : decode cWk_takeUp 25 = .ok (.iload_n 1, 1) := by decide +kernel
theorem dWk_takeUp_26 : decode cWk_takeUp 26 = .ok (.invokevirtual 77, 3) := by decide +kernel
theorem dWk_takeUp_29 : decode cWk_takeUp 29 = .ok (.invokevirtual 69, 3) := by decide +kernel
theorem dWk_takeUp_32 : decode cWk_takeUp 32 = .ok (.aload_n 0, 1) := by decide +kernel
theorem dWk_takeUp_33 : decode cWk_takeUp 33 = .ok (.aload_n 0, 1) := by decide +kernel
theorem dWk_takeUp_34 : decode cWk_takeUp 34 = .ok (.getfield 15, 3) := by decide +kernel
theorem dWk_takeUp_37 : decode cWk_takeUp 37 = .ok (.iload_n 1, 1) := by decide +kernel
theorem dWk_takeUp_38 : decode cWk_takeUp 38 = .ok (.invokevirtual 80, 3) := by decide +kernel
theorem dWk_takeUp_41 : decode cWk_takeUp 41 = .ok (.invokevirtual 69, 3) := by decide +kernel
theorem dWk_takeUp_44 : decode cWk_takeUp 44 = .ok (.goto 46, 3) := by decide +kernel
theorem dWk_takeUp_47 : decode cWk_takeUp 47 = .ok (.iload_n 2, 1) := by decide +kernel
theorem dWk_takeUp_48 : decode cWk_takeUp 48 = .ok (.bipush 22, 2) := by decide +kernel
theorem dWk_takeUp_50 : decode cWk_takeUp 50 = .ok (.if_icmp .ne 23, 3) := by decide +kernel
theorem dWk_takeUp_53 : decode cWk_takeUp 53 = .ok (.aload_n 0, 1) := by decide +kernel
theorem dWk_takeUp_54 : decode cWk_takeUp 54 = .ok (.iconst 0, 1) := by decide +kernel
theorem dWk_takeUp_55 : decode cWk_takeUp 55 = .ok (.invokevirtual 69, 3) := by decide +kernel
theorem dWk_takeUp_58 : decode cWk_takeUp 58 = .ok (.aload_n 0, 1) := by decide +kernel
theorem dWk_takeUp_59 : decode cWk_takeUp 59 = .ok (.aload_n 0, 1) := by decide +kernel
theorem dWk_takeUp_60 : decode cWk_takeUp 60 = .ok (.getfield 15, 3) := by decide +kernel
theorem dWk_takeUp_63 : decode cWk_takeUp 63 = .ok (.iload_n 1, 1) := by decide +kernel
theorem dWk_takeUp_64 : decode cWk_takeUp 64 = .ok (.invokevirtual 80, 3) := by decide +kernel
theorem dWk_takeUp_67 : decode cWk_takeUp 67 = .ok (.invokevirtual 69, 3) := by decide +kernel
theorem dWk_takeUp_70 : decode cWk_takeUp 70 = .ok (.goto 20, 3) := by decide +kernel
theorem dWk_takeUp_73 : decode cWk_takeUp 73 = .ok (.aload_n 0, 1) := by decide +kernel
theorem dWk_takeUp_74 : decode cWk_takeUp 74 = .ok (.iload_n 1, 1) := by decide +kernel
theorem dWk_takeUp_75 : decode cWk_takeUp 75 = .ok (.aload_n 0, 1) := by decide +kernel
theorem dWk_takeUp_76 : decode cWk_takeUp 76 = .ok (.getfield 27, 3) := by decide +kernel
theorem dWk_takeUp_79 : decode cWk_takeUp 79 = .ok (.iload_n 1, 1) := by decide +kernel
theorem dWk_takeUp_80 : decode cWk_takeUp 80 = .ok (.aload_n 0, 1) := by decide +kernel
theorem dWk_takeUp_81 : decode cWk_takeUp 81 = .ok (.getfield 35, 3) := by decide +kernel
theorem dWk_takeUp_84 : decode cWk_takeUp 84 = .ok (.invokevirtual 83, 3) := by decide +kernel
theorem dWk_takeUp_87 : decode cWk_takeUp 87 = .ok (.invokevirtual 89, 3) := by decide +kernel
theorem dWk_takeUp_90 : decode cWk_takeUp 90 = .ok (.return_, 1) := by decide +kernel
abbrev cWk_follow : ByteArray := prog_8_method_6_code
def yWk_follow : MethodName := ⟨RWk, "follow", "(II)V"⟩
def wsWk_follow : List Cond := .code yWk_follow cWk_follow 3 none :: TB
theorem dWk_follow_0 : decode cWk_follow 0 = .ok (.iload_n 2, 1) := by decide +kernel
theorem dWk_follow_1 : decode cWk_follow 1 = .ok (.ifCond .le 11, 3) := by decide +kernel
theorem dWk_follow_4 : decode cWk_follow 4 = .ok (.aload_n 0, 1) := by decide +kernel
theorem dWk_follow_5 : decode cWk_follow 5 = .ok (.iload_n 2, 1) := by decide +kernel
theorem dWk_follow_6 : decode cWk_follow 6 = .ok (.invokevirtual 69, 3) := by decide +kernel
theorem dWk_follow_9 : decode cWk_follow 9 = .ok (.goto 50, 3) := by decide +kernel
theorem dWk_follow_12 : decode cWk_follow 12 = .ok (.iload_n 2, 1) := by decide +kernel
theorem dWk_follow_13 : decode cWk_follow 13 = .ok (.iconst (-1), 1) := by decide +kernel
theorem dWk_follow_14 : decode cWk_follow 14 = .ok (.if_icmp .ne 10, 3) := by decide +kernel
theorem dWk_follow_17 : decode cWk_follow 17 = .ok (.aload_n 0, 1) := by decide +kernel
theorem dWk_follow_18 : decode cWk_follow 18 = .ok (.invokevirtual 93, 3) := by decide +kernel
theorem dWk_follow_21 : decode cWk_follow 21 = .ok (.goto 38, 3) := by decide +kernel
theorem dWk_follow_24 : decode cWk_follow 24 = .ok (.iload_n 2, 1) := by decide +kernel
theorem dWk_follow_25 : decode cWk_follow 25 = .ok (.bipush (-2), 2) := by decide +kernel
theorem dWk_follow_27 : decode cWk_follow 27 = .ok (.if_icmp .ne 17, 3) := by decide +kernel
theorem dWk_follow_30 : decode cWk_follow 30 = .ok (.aload_n 0, 1) := by decide +kernel
theorem dWk_follow_31 : decode cWk_follow 31 = .ok (.aload_n 0, 1) := by decide +kernel
theorem dWk_follow_32 : decode cWk_follow 32 = .ok (.getfield 27, 3) := by decide +kernel
theorem dWk_follow_35 : decode cWk_follow 35 = .ok (.getfield 96, 3) := by decide +kernel
theorem dWk_follow_38 : decode cWk_follow 38 = .ok (.invokevirtual 99, 3) := by decide +kernel
theorem dWk_follow_41 : decode cWk_follow 41 = .ok (.goto 18, 3) := by decide +kernel
theorem dWk_follow_44 : decode cWk_follow 44 = .ok (.aload_n 0, 1) := by decide +kernel
theorem dWk_follow_45 : decode cWk_follow 45 = .ok (.getfield 23, 3) := by decide +kernel
theorem dWk_follow_48 : decode cWk_follow 48 = .ok (.getfield 39, 3) := by decide +kernel
theorem dWk_follow_51 : decode cWk_follow 51 = .ok (.ifCond .ne 8, 3) := by decide +kernel
theorem dWk_follow_54 : decode cWk_follow 54 = .ok (.aload_n 0, 1) := by decide +kernel
theorem dWk_follow_55 : decode cWk_follow 55 = .ok (.iload_n 1, 1) := by decide +kernel
theorem dWk_follow_56 : decode cWk_follow 56 = .ok (.invokevirtual 69, 3) := by decide +kernel
theorem dWk_follow_59 : decode cWk_follow 59 = .ok (.return_, 1) := by decide +kernel
abbrev cWk_dropToSentenceEnd : ByteArray := prog_8_method_7_code
def yWk_dropToSentenceEnd : MethodName := ⟨RWk, "dropToSentenceEnd", "()V"⟩
def wsWk_dropToSentenceEnd : List Cond := .code yWk_dropToSentenceEnd cWk_dropToSentenceEnd 2 none :: TB
theorem dWk_dropToSentenceEnd_0 : decode cWk_dropToSentenceEnd 0 = .ok (.iconst 0, 1) := by decide +kernel
theorem dWk_dropToSentenceEnd_1 : decode cWk_dropToSentenceEnd 1 = .ok (.istore_n 1, 1) := by decide +kernel
theorem dWk_dropToSentenceEnd_2 : decode cWk_dropToSentenceEnd 2 = .ok (.iload_n 1, 1) := by decide +kernel
theorem dWk_dropToSentenceEnd_3 : decode cWk_dropToSentenceEnd 3 = .ok (.aload_n 0, 1) := by decide +kernel
theorem dWk_dropToSentenceEnd_4 : decode cWk_dropToSentenceEnd 4 = .ok (.getfield 9, 3) := by decide +kernel
theorem dWk_dropToSentenceEnd_7 : decode cWk_dropToSentenceEnd 7 = .ok (.arraylength, 1) := by decide +kernel
theorem dWk_dropToSentenceEnd_8 : decode cWk_dropToSentenceEnd 8 = .ok (.if_icmp .ge 24, 3) := by decide +kernel
theorem dWk_dropToSentenceEnd_11 : decode cWk_dropToSentenceEnd 11 = .ok (.aload_n 0, 1) := by decide +kernel
theorem dWk_dropToSentenceEnd_12 : decode cWk_dropToSentenceEnd 12 = .ok (.getfield 31, 3) := by decide +kernel
theorem dWk_dropToSentenceEnd_15 : decode cWk_dropToSentenceEnd 15 = .ok (.ifCond .le 17, 3) := by decide +kernel
theorem dWk_dropToSentenceEnd_18 : decode cWk_dropToSentenceEnd 18 = .ok (.aload_n 0, 1) := by decide +kernel
theorem dWk_dropToSentenceEnd_19 : decode cWk_dropToSentenceEnd 19 = .ok (.invokevirtual 47, 3) := by decide +kernel
theorem dWk_dropToSentenceEnd_22 : decode cWk_dropToSentenceEnd 22 = .ok (.ifCond .ne 4, 3) := by decide +kernel
theorem dWk_dropToSentenceEnd_25 : decode cWk_dropToSentenceEnd 25 = .ok (.return_, 1) := by decide +kernel
theorem dWk_dropToSentenceEnd_26 : decode cWk_dropToSentenceEnd 26 = .ok (.iinc 1 1, 3) := by decide +kernel
theorem dWk_dropToSentenceEnd_29 : decode cWk_dropToSentenceEnd 29 = .ok (.goto (-27), 3) := by decide +kernel
theorem dWk_dropToSentenceEnd_32 : decode cWk_dropToSentenceEnd 32 = .ok (.return_, 1) := by decide +kernel
abbrev cWk_push : ByteArray := prog_8_method_8_code
def yWk_push : MethodName := ⟨RWk, "push", "(I)V"⟩
def wsWk_push : List Cond := .code yWk_push cWk_push 2 none :: TB
theorem dWk_push_0 : decode cWk_push 0 = .ok (.aload_n 0, 1) := by decide +kernel
theorem dWk_push_1 : decode cWk_push 1 = .ok (.getfield 31, 3) := by decide +kernel
theorem dWk_push_4 : decode cWk_push 4 = .ok (.ifCond .lt 35, 3) := by decide +kernel
theorem dWk_push_7 : decode cWk_push 7 = .ok (.aload_n 0, 1) := by decide +kernel
theorem dWk_push_8 : decode cWk_push 8 = .ok (.getfield 31, 3) := by decide +kernel
theorem dWk_push_11 : decode cWk_push 11 = .ok (.aload_n 0, 1) := by decide +kernel
theorem dWk_push_12 : decode cWk_push 12 = .ok (.getfield 9, 3) := by decide +kernel
theorem dWk_push_15 : decode cWk_push 15 = .ok (.arraylength, 1) := by decide +kernel
theorem dWk_push_16 : decode cWk_push 16 = .ok (.if_icmp .ge 23, 3) := by decide +kernel
theorem dWk_push_19 : decode cWk_push 19 = .ok (.aload_n 0, 1) := by decide +kernel
theorem dWk_push_20 : decode cWk_push 20 = .ok (.getfield 9, 3) := by decide +kernel
theorem dWk_push_23 : decode cWk_push 23 = .ok (.aload_n 0, 1) := by decide +kernel
theorem dWk_push_24 : decode cWk_push 24 = .ok (.getfield 31, 3) := by decide +kernel
theorem dWk_push_27 : decode cWk_push 27 = .ok (.iload_n 1, 1) := by decide +kernel
theorem dWk_push_28 : decode cWk_push 28 = .ok (.iastore, 1) := by decide +kernel
theorem dWk_push_29 : decode cWk_push 29 = .ok (.aload_n 0, 1) := by decide +kernel
theorem dWk_push_30 : decode cWk_push 30 = .ok (.dup, 1) := by decide +kernel
theorem dWk_push_31 : decode cWk_push 31 = .ok (.getfield 31, 3) := by decide +kernel
theorem dWk_push_34 : decode cWk_push 34 = .ok (.iconst 1, 1) := by decide +kernel
theorem dWk_push_35 : decode cWk_push 35 = .ok (.iadd, 1) := by decide +kernel
theorem dWk_push_36 : decode cWk_push 36 = .ok (.putfield 31, 3) := by decide +kernel
theorem dWk_push_39 : decode cWk_push 39 = .ok (.return_, 1) := by decide +kernel
abbrev cWk_pop : ByteArray := prog_8_method_9_code
def yWk_pop : MethodName := ⟨RWk, "pop", "()I"⟩
def wsWk_pop : List Cond := .code yWk_pop cWk_pop 1 (some .int) :: TB
theorem dWk_pop_0 : decode cWk_pop 0 = .ok (.aload_n 0, 1) := by decide +kernel
theorem dWk_pop_1 : decode cWk_pop 1 = .ok (.getfield 31, 3) := by decide +kernel
theorem dWk_pop_4 : decode cWk_pop 4 = .ok (.ifCond .le 15, 3) := by decide +kernel
theorem dWk_pop_7 : decode cWk_pop 7 = .ok (.aload_n 0, 1) := by decide +kernel
theorem dWk_pop_8 : decode cWk_pop 8 = .ok (.getfield 31, 3) := by decide +kernel
theorem dWk_pop_11 : decode cWk_pop 11 = .ok (.aload_n 0, 1) := by decide +kernel
theorem dWk_pop_12 : decode cWk_pop 12 = .ok (.getfield 9, 3) := by decide +kernel
theorem dWk_pop_15 : decode cWk_pop 15 = .ok (.arraylength, 1) := by decide +kernel
theorem dWk_pop_16 : decode cWk_pop 16 = .ok (.if_icmp .le 5, 3) := by decide +kernel
theorem dWk_pop_19 : decode cWk_pop 19 = .ok (.iconst 0, 1) := by decide +kernel
theorem dWk_pop_20 : decode cWk_pop 20 = .ok (.ireturn, 1) := by decide +kernel
theorem dWk_pop_21 : decode cWk_pop 21 = .ok (.aload_n 0, 1) := by decide +kernel
theorem dWk_pop_22 : decode cWk_pop 22 = .ok (.dup, 1) := by decide +kernel
theorem dWk_pop_23 : decode cWk_pop 23 = .ok (.getfield 31, 3) := by decide +kernel
theorem dWk_pop_26 : decode cWk_pop 26 = .ok (.iconst 1, 1) := by decide +kernel
theorem dWk_pop_27 : decode cWk_pop 27 = .ok (.isub, 1) := by decide +kernel
theorem dWk_pop_28 : decode cWk_pop 28 = .ok (.putfield 31, 3) := by decide +kernel
theorem dWk_pop_31 : decode cWk_pop 31 = .ok (.aload_n 0, 1) := by decide +kernel
theorem dWk_pop_32 : decode cWk_pop 32 = .ok (.getfield 9, 3) := by decide +kernel
theorem dWk_pop_35 : decode cWk_pop 35 = .ok (.aload_n 0, 1) := by decide +kernel
theorem dWk_pop_36 : decode cWk_pop 36 = .ok (.getfield 31, 3) := by decide +kernel
theorem dWk_pop_39 : decode cWk_pop 39 = .ok (.iaload, 1) := by decide +kernel
theorem dWk_pop_40 : decode cWk_pop 40 = .ok (.ireturn, 1) := by decide +kernel
