abbrev cJo_init : ByteArray := prog_3_method_1_code
def yJo_init : MethodName := ⟨RJo, "<init>", "()V"⟩
def wsJo_init : List Cond := .code yJo_init cJo_init 1 none :: TB
theorem dJo_init_0 : decode cJo_init 0 = .ok (.aload_n 0, 1) := by decide +kernel
theorem dJo_init_1 : decode cJo_init 1 = .ok (.invokespecial 3, 3) := by decide +kernel
theorem dJo_init_4 : decode cJo_init 4 = .ok (.aload_n 0, 1) := by decide +kernel
theorem dJo_init_5 : decode cJo_init 5 = .ok (.sipush 1000, 3) := by decide +kernel
theorem dJo_init_8 : decode cJo_init 8 = .ok (.newarray .int, 2) := by decide +kernel
theorem dJo_init_10 : decode cJo_init 10 = .ok (.putfield 9, 3) := by decide +kernel
theorem dJo_init_13 : decode cJo_init 13 = .ok (.aload_n 0, 1) := by decide +kernel
theorem dJo_init_14 : decode cJo_init 14 = .ok (.iconst 1, 1) := by decide +kernel
theorem dJo_init_15 : decode cJo_init 15 = .ok (.putfield 15, 3) := by decide +kernel
theorem dJo_init_18 : decode cJo_init 18 = .ok (.return_, 1) := by decide +kernel
abbrev cJo_start : ByteArray := prog_3_method_2_code
def yJo_start : MethodName := ⟨RJo, "start", "(I)V"⟩
def wsJo_start : List Cond := .code yJo_start cJo_start 2 none :: TB
theorem dJo_start_0 : decode cJo_start 0 = .ok (.aload_n 0, 1) := by decide +kernel
theorem dJo_start_1 : decode cJo_start 1 = .ok (.iconst 0, 1) := by decide +kernel
theorem dJo_start_2 : decode cJo_start 2 = .ok (.putfield 19, 3) := by decide +kernel
theorem dJo_start_5 : decode cJo_start 5 = .ok (.aload_n 0, 1) := by decide +kernel
theorem dJo_start_6 : decode cJo_start 6 = .ok (.iconst 0, 1) := by decide +kernel
theorem dJo_start_7 : decode cJo_start 7 = .ok (.putfield 22, 3) := by decide +kernel
theorem dJo_start_10 : decode cJo_start 10 = .ok (.aload_n 0, 1) := by decide +kernel
theorem dJo_start_11 : decode cJo_start 11 = .ok (.iload_n 1, 1) := by decide +kernel
theorem dJo_start_12 : decode cJo_start 12 = .ok (.invokevirtual 25, 3) := by decide +kernel
theorem dJo_start_15 : decode cJo_start 15 = .ok (.return_, 1) := by decide +kernel
abbrev cJo_goFurther : ByteArray := prog_3_method_3_code
def yJo_goFurther : MethodName := ⟨RJo, "goFurther", "(I)V"⟩
def wsJo_goFurther : List Cond := .code yJo_goFurther cJo_goFurther 2 none :: TB
theorem dJo_goFurther_0 : decode cJo_goFurther 0 = .ok (.aload_n 0, 1) := by decide +kernel
theorem dJo_goFurther_1 : decode cJo_goFurther 1 = .ok (.iload_n 1, 1) := by decide +kernel
theorem dJo_goFurther_2 : decode cJo_goFurther 2 = .ok (.putfield 29, 3) := by decide +kernel
theorem dJo_goFurther_5 : decode cJo_goFurther 5 = .ok (.aload_n 0, 1) := by decide +kernel
theorem dJo_goFurther_6 : decode cJo_goFurther 6 = .ok (.iconst 0, 1) := by decide +kernel
theorem dJo_goFurther_7 : decode cJo_goFurther 7 = .ok (.putfield 32, 3) := by decide +kernel
theorem dJo_goFurther_10 : decode cJo_goFurther 10 = .ok (.aload_n 0, 1) := by decide +kernel
theorem dJo_goFurther_11 : decode cJo_goFurther 11 = .ok (.iconst 3, 1) := by decide +kernel
theorem dJo_goFurther_12 : decode cJo_goFurther 12 = .ok (.putfield 15, 3) := by decide +kernel
theorem dJo_goFurther_15 : decode cJo_goFurther 15 = .ok (.return_, 1) := by decide +kernel
abbrev cJo_begins : ByteArray := prog_3_method_4_code
def yJo_begins : MethodName := ⟨RJo, "begins", "(I)Z"⟩
def wsJo_begins : List Cond := .code yJo_begins cJo_begins 2 (some .boolean) :: TB
theorem dJo_begins_0 : decode cJo_begins 0 = .ok (.aload_n 0, 1) := by decide +kernel
theorem dJo_begins_1 : decode cJo_begins 1 = .ok (.getfield 29, 3) := by decide +kernel
theorem dJo_begins_4 : decode cJo_begins 4 = .ok (.ifCond .gt 15, 3) := by decide +kernel
theorem dJo_begins_7 : decode cJo_begins 7 = .ok (.aload_n 0, 1) := by decide +kernel
theorem dJo_begins_8 : decode cJo_begins 8 = .ok (.iconst 0, 1) := by decide +kernel
theorem dJo_begins_9 : decode cJo_begins 9 = .ok (.putfield 15, 3) := by decide +kernel
theorem dJo_begins_12 : decode cJo_begins 12 = .ok (.aload_n 0, 1) := by decide +kernel
theorem dJo_begins_13 : decode cJo_begins 13 = .ok (.iload_n 1, 1) := by decide +kernel
theorem dJo_begins_14 : decode cJo_begins 14 = .ok (.putfield 32, 3) := by decide +kernel
theorem dJo_begins_17 : decode cJo_begins 17 = .ok (.iconst 0, 1) := by decide +kernel
theorem dJo_begins_18 : decode cJo_begins 18 = .ok (.ireturn, 1) := by decide +kernel
theorem dJo_begins_19 : decode cJo_begins 19 = .ok (.aload_n 0, 1) := by decide +kernel
theorem dJo_begins_20 : decode cJo_begins 20 = .ok (.dup, 1) := by decide +kernel
theorem dJo_begins_21 : decode cJo_begins 21 = .ok (.getfield 29, 3) := by decide +kernel
theorem dJo_begins_24 : decode cJo_begins 24 = .ok (.iconst 1, 1) := by decide +kernel
theorem dJo_begins_25 : decode cJo_begins 25 = .ok (.isub, 1) := by decide +kernel
theorem dJo_begins_26 : decode cJo_begins 26 = .ok (.putfield 29, 3) := by decide +kernel
theorem dJo_begins_29 : decode cJo_begins 29 = .ok (.aload_n 0, 1) := by decide +kernel
theorem dJo_begins_30 : decode cJo_begins 30 = .ok (.getfield 19, 3) := by decide +kernel
theorem dJo_begins_33 : decode cJo_begins 33 = .ok (.ifCond .lt 25, 3) := by decide +kernel
theorem dJo_begins_36 : decode cJo_begins 36 = .ok (.aload_n 0, 1) := by decide +kernel
theorem dJo_begins_37 : decode cJo_begins 37 = .ok (.getfield 19, 3) := by decide +kernel
theorem dJo_begins_40 : decode cJo_begins 40 = .ok (.aload_n 0, 1) := by decide +kernel
theorem dJo_begins_41 : decode cJo_begins 41 = .ok (.getfield 9, 3) := by decide +kernel
theorem dJo_begins_44 : decode cJo_begins 44 = .ok (.arraylength, 1) := by decide +kernel
theorem dJo_begins_45 : decode cJo_begins 45 = .ok (.if_icmp .ge 13, 3) := by decide +kernel
theorem dJo_begins_48 : decode cJo_begins 48 = .ok (.aload_n 0, 1) := by decide +kernel
theorem dJo_begins_49 : decode cJo_begins 49 = .ok (.getfield 9, 3) := by decide +kernel
theorem dJo_begins_52 : decode cJo_begins 52 = .ok (.aload_n 0, 1) := by decide +kernel
theorem dJo_begins_53 : decode cJo_begins 53 = .ok (.getfield 19, 3) := by decide +kernel
theorem dJo_begins_56 : decode cJo_begins 56 = .ok (.iload_n 1, 1) := by decide +kernel
theorem dJo_begins_57 : decode cJo_begins 57 = .ok (.iastore, 1) := by decide +kernel
theorem dJo_begins_58 : decode cJo_begins 58 = .ok (.aload_n 0, 1) := by decide +kernel
theorem dJo_begins_59 : decode cJo_begins 59 = .ok (.dup, 1) := by decide +kernel
theorem dJo_begins_60 : decode cJo_begins 60 = .ok (.getfield 19, 3) := by decide +kernel
theorem dJo_begins_63 : decode cJo_begins 63 = .ok (.iconst 1, 1) := by decide +kernel
theorem dJo_begins_64 : decode cJo_begins 64 = .ok (.iadd, 1) := by decide +kernel
theorem dJo_begins_65 : decode cJo_begins 65 = .ok (.putfield 19, 3) := by decide +kernel
theorem dJo_begins_68 : decode cJo_begins 68 = .ok (.iconst 1, 1) := by decide +kernel
theorem dJo_begins_69 : decode cJo_begins 69 = .ok (.ireturn, 1) := by decide +kernel
abbrev cJo_endWith : ByteArray := prog_3_method_5_code
def yJo_endWith : MethodName := ⟨RJo, "endWith", "(J)V"⟩
def wsJo_endWith : List Cond := .code yJo_endWith cJo_endWith 3 none :: TB
theorem dJo_endWith_0 : decode cJo_endWith 0 = .ok (.aload_n 0, 1) := by decide +kernel
theorem dJo_endWith_1 : decode cJo_endWith 1 = .ok (.iconst 1, 1) := by decide +kernel
theorem dJo_endWith_2 : decode cJo_endWith 2 = .ok (.putfield 15, 3) := by decide +kernel
theorem dJo_endWith_5 : decode cJo_endWith 5 = .ok (.aload_n 0, 1) := by decide +kernel
theorem dJo_endWith_6 : decode cJo_endWith 6 = .ok (.lload_n 1, 1) := by decide +kernel
theorem dJo_endWith_7 : decode cJo_endWith 7 = .ok (.putfield 35, 3) := by decide +kernel
theorem dJo_endWith_10 : decode cJo_endWith 10 = .ok (.return_, 1) := by decide +kernel
abbrev cJo_endRaising : ByteArray := prog_3_method_6_code
def yJo_endRaising : MethodName := ⟨RJo, "endRaising", "(I)V"⟩
def wsJo_endRaising : List Cond := .code yJo_endRaising cJo_endRaising 2 none :: TB
theorem dJo_endRaising_0 : decode cJo_endRaising 0 = .ok (.aload_n 0, 1) := by decide +kernel
theorem dJo_endRaising_1 : decode cJo_endRaising 1 = .ok (.iconst 2, 1) := by decide +kernel
theorem dJo_endRaising_2 : decode cJo_endRaising 2 = .ok (.putfield 15, 3) := by decide +kernel
theorem dJo_endRaising_5 : decode cJo_endRaising 5 = .ok (.aload_n 0, 1) := by decide +kernel
theorem dJo_endRaising_6 : decode cJo_endRaising 6 = .ok (.iload_n 1, 1) := by decide +kernel
theorem dJo_endRaising_7 : decode cJo_endRaising 7 = .ok (.putfield 22, 3) := by decide +kernel
theorem dJo_endRaising_10 : decode cJo_endRaising 10 = .ok (.return_, 1) := by decide +kernel
abbrev cJo_begunAt : ByteArray := prog_3_method_7_code
def yJo_begunAt : MethodName := ⟨RJo, "begunAt", "(I)I"⟩
def wsJo_begunAt : List Cond := .code yJo_begunAt cJo_begunAt 2 (some .int) :: TB
theorem dJo_begunAt_0 : decode cJo_begunAt 0 = .ok (.iload_n 1, 1) := by decide +kernel
theorem dJo_begunAt_1 : decode cJo_begunAt 1 = .ok (.ifCond .lt 29, 3) := by decide +kernel
theorem dJo_begunAt_4 : decode cJo_begunAt 4 = .ok (.iload_n 1, 1) := by decide +kernel
theorem dJo_begunAt_5 : decode cJo_begunAt 5 = .ok (.aload_n 0, 1) := by decide +kernel
theorem dJo_begunAt_6 : decode cJo_begunAt 6 = .ok (.getfield 19, 3) := by decide +kernel
theorem dJo_begunAt_9 : decode cJo_begunAt 9 = .ok (.if_icmp .ge 21, 3) := by decide +kernel
theorem dJo_begunAt_12 : decode cJo_begunAt 12 = .ok (.iload_n 1, 1) := by decide +kernel
theorem dJo_begunAt_13 : decode cJo_begunAt 13 = .ok (.aload_n 0, 1) := by decide +kernel
theorem dJo_begunAt_14 : decode cJo_begunAt 14 = .ok (.getfield 9, 3) := by decide +kernel
theorem dJo_begunAt_17 : decode cJo_begunAt 17 = .ok (.arraylength, 1) := by decide +kernel
theorem dJo_begunAt_18 : decode cJo_begunAt 18 = .ok (.if_icmp .ge 12, 3) := by decide +kernel
theorem dJo_begunAt_21 : decode cJo_begunAt 21 = .ok (.aload_n 0, 1) := by decide +kernel
theorem dJo_begunAt_22 : decode cJo_begunAt 22 = .ok (.getfield 9, 3) := by decide +kernel
theorem dJo_begunAt_25 : decode cJo_begunAt 25 = .ok (.iload_n 1, 1) := by decide +kernel
theorem dJo_begunAt_26 : decode cJo_begunAt 26 = .ok (.iaload, 1) := by decide +kernel
theorem dJo_begunAt_27 : decode cJo_begunAt 27 = .ok (.goto 4, 3) := by decide +kernel
theorem dJo_begunAt_30 : decode cJo_begunAt 30 = .ok (.iconst 0, 1) := by decide +kernel
theorem dJo_begunAt_31 : decode cJo_begunAt 31 = .ok (.ireturn, 1) := by decide +kernel
abbrev cJo_isLike : ByteArray := prog_3_method_8_code
def yJo_isLike : MethodName := ⟨RJo, "isLike", "(LParagraphWalk$Journey;)Z"⟩
def wsJo_isLike : List Cond := .code yJo_isLike cJo_isLike 3 (some .boolean) :: TB
theorem dJo_isLike_0 : decode cJo_isLike 0 = .ok (.aload_n 0, 1) := by decide +kernel
theorem dJo_isLike_1 : decode cJo_isLike 1 = .ok (.getfield 19, 3) := by decide +kernel
theorem dJo_isLike_4 : decode cJo_isLike 4 = .ok (.aload_n 1, 1) := by decide +kernel
theorem dJo_isLike_5 : decode cJo_isLike 5 = .ok (.getfield 19, 3) := by decide +kernel
theorem dJo_isLike_8 : decode cJo_isLike 8 = .ok (.if_icmp .ne 36, 3) := by decide +kernel
theorem dJo_isLike_11 : decode cJo_isLike 11 = .ok (.aload_n 0, 1) := by decide +kernel
theorem dJo_isLike_12 : decode cJo_isLike 12 = .ok (.getfield 15, 3) := by decide +kernel
theorem dJo_isLike_15 : decode cJo_isLike 15 = .ok (.aload_n 1, 1) := by decide +kernel
theorem dJo_isLike_16 : decode cJo_isLike 16 = .ok (.getfield 15, 3) := by decide +kernel
theorem dJo_isLike_19 : decode cJo_isLike 19 = .ok (.if_icmp .ne 25, 3) := by decide +kernel
theorem dJo_isLike_22 : decode cJo_isLike 22 = .ok (.aload_n 0, 1) := by decide +kernel
theorem dJo_isLike_23 : decode cJo_isLike 23 = .ok (.getfield 32, 3) := by decide +kernel
theorem dJo_isLike_26 : decode cJo_isLike 26 = .ok (.aload_n 1, 1) := by decide +kernel
theorem dJo_isLike_27 : decode cJo_isLike 27 = .ok (.getfield 32, 3) := by decide +kernel
theorem dJo_isLike_30 : decode cJo_isLike 30 = .ok (.if_icmp .ne 14, 3) := by decide +kernel
theorem dJo_isLike_33 : decode cJo_isLike 33 = .ok (.aload_n 0, 1) := by decide +kernel
theorem dJo_isLike_34 : decode cJo_isLike 34 = .ok (.getfield 22, 3) := by decide +kernel
theorem dJo_isLike_37 : decode cJo_isLike 37 = .ok (.aload_n 1, 1) := by decide +kernel
theorem dJo_isLike_38 : decode cJo_isLike 38 = .ok (.getfield 22, 3) := by decide +kernel
theorem dJo_isLike_41 : decode cJo_isLike 41 = .ok (.if_icmp .eq 5, 3) := by decide +kernel
theorem dJo_isLike_44 : decode cJo_isLike 44 = .ok (.iconst 0, 1) := by decide +kernel
theorem dJo_isLike_45 : decode cJo_isLike 45 = .ok (.ireturn, 1) := by decide +kernel
theorem dJo_isLike_46 : decode cJo_isLike 46 = .ok (.aload_n 0, 1) := by decide +kernel
theorem dJo_isLike_47 : decode cJo_isLike 47 = .ok (.getfield 15, 3) := by decide +kernel
theorem dJo_isLike_50 : decode cJo_isLike 50 = .ok (.iconst 1, 1) := by decide +kernel
theorem dJo_isLike_51 : decode cJo_isLike 51 = .ok (.if_icmp .ne 17, 3) := by decide +kernel
theorem dJo_isLike_54 : decode cJo_isLike 54 = .ok (.aload_n 0, 1) := by decide +kernel
theorem dJo_isLike_55 : decode cJo_isLike 55 = .ok (.getfield 35, 3) := by decide +kernel
theorem dJo_isLike_58 : decode cJo_isLike 58 = .ok (.aload_n 1, 1) := by decide +kernel
theorem dJo_isLike_59 : decode cJo_isLike 59 = .ok (.getfield 35, 3) := by decide +kernel
theorem dJo_isLike_62 : decode cJo_isLike 62 = .ok (.lcmp, 1) := by decide +kernel
theorem dJo_isLike_63 : decode cJo_isLike 63 = .ok (.ifCond .eq 5, 3) := by decide +kernel
theorem dJo_isLike_66 : decode cJo_isLike 66 = .ok (.iconst 0, 1) := by decide +kernel
theorem dJo_isLike_67 : decode cJo_isLike 67 = .ok (.ireturn, 1) := by decide +kernel
theorem dJo_isLike_68 : decode cJo_isLike 68 = .ok (.iconst 0, 1) := by decide +kernel
theorem dJo_isLike_69 : decode cJo_isLike 69 = .ok (.istore_n 2, 1) := by decide +kernel
theorem dJo_isLike_70 : decode cJo_isLike 70 = .ok (.iload_n 2, 1) := by decide +kernel
theorem dJo_isLike_71 : decode cJo_isLike 71 = .ok (.aload_n 0, 1) := by decide +kernel
theorem dJo_isLike_72 : decode cJo_isLike 72 = .ok (.getfield 19, 3) := by decide +kernel
theorem dJo_isLike_75 : decode cJo_isLike 75 = .ok (.if_icmp .ge 34, 3) := by decide +kernel
theorem dJo_isLike_78 : decode cJo_isLike 78 = .ok (.iload_n 2, 1) := by decide +kernel
theorem dJo_isLike_79 : decode cJo_isLike 79 = .ok (.aload_n 0, 1) := by decide +kernel
theorem dJo_isLike_80 : decode cJo_isLike 80 = .ok (.getfield 9, 3) := by decide +kernel
theorem dJo_isLike_83 : decode cJo_isLike 83 = .ok (.arraylength, 1) := by decide +kernel
theorem dJo_isLike_84 : decode cJo_isLike 84 = .ok (.if_icmp .ge 25, 3) := by decide +kernel
theorem dJo_isLike_87 : decode cJo_isLike 87 = .ok (.aload_n 0, 1) := by decide +kernel
theorem dJo_isLike_88 : decode cJo_isLike 88 = .ok (.getfield 9, 3) := by decide +kernel
theorem dJo_isLike_91 : decode cJo_isLike 91 = .ok (.iload_n 2, 1) := by decide +kernel
theorem dJo_isLike_92 : decode cJo_isLike 92 = .ok (.iaload, 1) := by decide +kernel
theorem dJo_isLike_93 : decode cJo_isLike 93 = .ok (.aload_n 1, 1) := by decide +kernel
theorem dJo_isLike_94 : decode cJo_isLike 94 = .ok (.iload_n 2, 1) := by decide +kernel
theorem dJo_isLike_95 : decode cJo_isLike 95 = .ok (.invokevirtual 39, 3) := by decide +kernel
theorem dJo_isLike_98 : decode cJo_isLike 98 = .ok (.if_icmp .eq 5, 3) := by decide +kernel
theorem dJo_isLike_101 : decode cJo_isLike 101 = .ok (.iconst 0, 1) := by decide +kernel
theorem dJo_isLike_102 : decode cJo_isLike 102 = .ok (.ireturn, 1) := by decide +kernel
theorem dJo_isLike_103 : decode cJo_isLike 103 = .ok (.iinc 2 1, 3) := by decide +kernel
theorem dJo_isLike_106 : decode cJo_isLike 106 = .ok (.goto (-36), 3) := by decide +kernel
theorem dJo_isLike_109 : decode cJo_isLike 109 = .ok (.iconst 1, 1) := by decide +kernel
theorem dJo_isLike_110 : decode cJo_isLike 110 = .ok (.ireturn, 1) := by decide +kernel
