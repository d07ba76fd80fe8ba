abbrev cSc_init : ByteArray := prog_7_method_1_code
def ySc_init : MethodName := ⟨RSc, "<init>", "()V"⟩
def wsSc_init : List Cond := .code ySc_init cSc_init 1 none :: TB
theorem dSc_init_0 : decode cSc_init 0 = .ok (.aload_n 0, 1) := by decide +kernel
theorem dSc_init_1 : decode cSc_init 1 = .ok (.invokespecial 3, 3) := by decide +kernel
theorem dSc_init_4 : decode cSc_init 4 = .ok (.aload_n 0, 1) := by decide +kernel
theorem dSc_init_5 : decode cSc_init 5 = .ok (.bipush 40, 2) := by decide +kernel
theorem dSc_init_7 : decode cSc_init 7 = .ok (.newarray .int, 2) := by decide +kernel
theorem dSc_init_9 : decode cSc_init 9 = .ok (.putfield 9, 3) := by decide +kernel
theorem dSc_init_12 : decode cSc_init 12 = .ok (.aload_n 0, 1) := by decide +kernel
theorem dSc_init_13 : decode cSc_init 13 = .ok (.bipush 40, 2) := by decide +kernel
theorem dSc_init_15 : decode cSc_init 15 = .ok (.newarray .long, 2) := by decide +kernel
theorem dSc_init_17 : decode cSc_init 17 = .ok (.putfield 15, 3) := by decide +kernel
theorem dSc_init_20 : decode cSc_init 20 = .ok (.aload_n 0, 1) := by decide +kernel
theorem dSc_init_21 : decode cSc_init 21 = .ok (.sipush 201, 3) := by decide +kernel
theorem dSc_init_24 : decode cSc_init 24 = .ok (.newarray .int, 2) := by decide +kernel
theorem dSc_init_26 : decode cSc_init 26 = .ok (.putfield 19, 3) := by decide +kernel
theorem dSc_init_29 : decode cSc_init 29 = .ok (.return_, 1) := by decide +kernel
abbrev cSc_addCell : ByteArray := prog_7_method_2_code
def ySc_addCell : MethodName := ⟨RSc, "addCell", "(IJ)I"⟩
def wsSc_addCell : List Cond := .code ySc_addCell cSc_addCell 4 (some .int) :: TB
theorem dSc_addCell_0 : decode cSc_addCell 0 = .ok (.iload_n 1, 1) := by decide +kernel
theorem dSc_addCell_1 : decode cSc_addCell 1 = .ok (.iconst 1, 1) := by decide +kernel
theorem dSc_addCell_2 : decode cSc_addCell 2 = .ok (.if_icmp .lt 9, 3) := by decide +kernel
theorem dSc_addCell_5 : decode cSc_addCell 5 = .ok (.iload_n 1, 1) := by decide +kernel
theorem dSc_addCell_6 : decode cSc_addCell 6 = .ok (.bipush 18, 2) := by decide +kernel
theorem dSc_addCell_8 : decode cSc_addCell 8 = .ok (.if_icmp .le 6, 3) := by decide +kernel
theorem dSc_addCell_11 : decode cSc_addCell 11 = .ok (.bipush (-4), 2) := by decide +kernel
theorem dSc_addCell_13 : decode cSc_addCell 13 = .ok (.ireturn, 1) := by decide +kernel
theorem dSc_addCell_14 : decode cSc_addCell 14 = .ok (.aload_n 0, 1) := by decide +kernel
theorem dSc_addCell_15 : decode cSc_addCell 15 = .ok (.getfield 22, 3) := by decide +kernel
theorem dSc_addCell_18 : decode cSc_addCell 18 = .ok (.bipush 40, 2) := by decide +kernel
theorem dSc_addCell_20 : decode cSc_addCell 20 = .ok (.if_icmp .lt 5, 3) := by decide +kernel
theorem dSc_addCell_23 : decode cSc_addCell 23 = .ok (.iconst (-1), 1) := by decide +kernel
theorem dSc_addCell_24 : decode cSc_addCell 24 = .ok (.ireturn, 1) := by decide +kernel
theorem dSc_addCell_25 : decode cSc_addCell 25 = .ok (.aload_n 0, 1) := by decide +kernel
theorem dSc_addCell_26 : decode cSc_addCell 26 = .ok (.getfield 9, 3) := by decide +kernel
theorem dSc_addCell_29 : decode cSc_addCell 29 = .ok (.aload_n 0, 1) := by decide +kernel
theorem dSc_addCell_30 : decode cSc_addCell 30 = .ok (.getfield 22, 3) := by decide +kernel
theorem dSc_addCell_33 : decode cSc_addCell 33 = .ok (.iload_n 1, 1) := by decide +kernel
theorem dSc_addCell_34 : decode cSc_addCell 34 = .ok (.iastore, 1) := by decide +kernel
theorem dSc_addCell_35 : decode cSc_addCell 35 = .ok (.aload_n 0, 1) := by decide +kernel
theorem dSc_addCell_36 : decode cSc_addCell 36 = .ok (.dup, 1) := by decide +kernel
theorem dSc_addCell_37 : decode cSc_addCell 37 = .ok (.getfield 22, 3) := by decide +kernel
theorem dSc_addCell_40 : decode cSc_addCell 40 = .ok (.iconst 1, 1) := by decide +kernel
theorem dSc_addCell_41 : decode cSc_addCell 41 = .ok (.iadd, 1) := by decide +kernel
theorem dSc_addCell_42 : decode cSc_addCell 42 = .ok (.putfield 22, 3) := by decide +kernel
theorem dSc_addCell_45 : decode cSc_addCell 45 = .ok (.aload_n 0, 1) := by decide +kernel
theorem dSc_addCell_46 : decode cSc_addCell 46 = .ok (.aload_n 0, 1) := by decide +kernel
theorem dSc_addCell_47 : decode cSc_addCell 47 = .ok (.getfield 22, 3) := by decide +kernel
theorem dSc_addCell_50 : decode cSc_addCell 50 = .ok (.iconst 1, 1) := by decide +kernel
theorem dSc_addCell_51 : decode cSc_addCell 51 = .ok (.isub, 1) := by decide +kernel
theorem dSc_addCell_52 : decode cSc_addCell 52 = .ok (.lload_n 2, 1) := by decide +kernel
theorem dSc_addCell_53 : decode cSc_addCell 53 = .ok (.invokevirtual 26, 3) := by decide +kernel
theorem dSc_addCell_56 : decode cSc_addCell 56 = .ok (.aload_n 0, 1) := by decide +kernel
theorem dSc_addCell_57 : decode cSc_addCell 57 = .ok (.getfield 22, 3) := by decide +kernel
theorem dSc_addCell_60 : decode cSc_addCell 60 = .ok (.iconst 1, 1) := by decide +kernel
theorem dSc_addCell_61 : decode cSc_addCell 61 = .ok (.isub, 1) := by decide +kernel
theorem dSc_addCell_62 : decode cSc_addCell 62 = .ok (.ireturn, 1) := by decide +kernel
abbrev cSc_hasCell : ByteArray := prog_7_method_3_code
def ySc_hasCell : MethodName := ⟨RSc, "hasCell", "(I)Z"⟩
def wsSc_hasCell : List Cond := .code ySc_hasCell cSc_hasCell 2 (some .boolean) :: TB
theorem dSc_hasCell_0 : decode cSc_hasCell 0 = .ok (.iload_n 1, 1) := by decide +kernel
theorem dSc_hasCell_1 : decode cSc_hasCell 1 = .ok (.ifCond .lt 15, 3) := by decide +kernel
theorem dSc_hasCell_4 : decode cSc_hasCell 4 = .ok (.iload_n 1, 1) := by decide +kernel
theorem dSc_hasCell_5 : decode cSc_hasCell 5 = .ok (.aload_n 0, 1) := by decide +kernel
theorem dSc_hasCell_6 : decode cSc_hasCell 6 = .ok (.getfield 22, 3) := by decide +kernel
theorem dSc_hasCell_9 : decode cSc_hasCell 9 = .ok (.if_icmp .ge 7, 3) := by decide +kernel
theorem dSc_hasCell_12 : decode cSc_hasCell 12 = .ok (.iconst 1, 1) := by decide +kernel
theorem dSc_hasCell_13 : decode cSc_hasCell 13 = .ok (.goto 4, 3) := by decide +kernel
theorem dSc_hasCell_16 : decode cSc_hasCell 16 = .ok (.iconst 0, 1) := by decide +kernel
theorem dSc_hasCell_17 : decode cSc_hasCell 17 = .ok (.ireturn, 1) := by decide +kernel
abbrev cSc_valueOf : ByteArray := prog_7_method_4_code
def ySc_valueOf : MethodName := ⟨RSc, "valueOf", "(I)J"⟩
def wsSc_valueOf : List Cond := .code ySc_valueOf cSc_valueOf 2 (some .long) :: TB
theorem dSc_valueOf_0 : decode cSc_valueOf 0 = .ok (.iload_n 1, 1) := by decide +kernel
theorem dSc_valueOf_1 : decode cSc_valueOf 1 = .ok (.ifCond .lt 20, 3) := by decide +kernel
theorem dSc_valueOf_4 : decode cSc_valueOf 4 = .ok (.iload_n 1, 1) := by decide +kernel
theorem dSc_valueOf_5 : decode cSc_valueOf 5 = .ok (.aload_n 0, 1) := by decide +kernel
theorem dSc_valueOf_6 : decode cSc_valueOf 6 = .ok (.getfield 22, 3) := by decide +kernel
theorem dSc_valueOf_9 : decode cSc_valueOf 9 = .ok (.if_icmp .ge 12, 3) := by decide +kernel
theorem dSc_valueOf_12 : decode cSc_valueOf 12 = .ok (.aload_n 0, 1) := by decide +kernel
theorem dSc_valueOf_13 : decode cSc_valueOf 13 = .ok (.getfield 15, 3) := by decide +kernel
theorem dSc_valueOf_16 : decode cSc_valueOf 16 = .ok (.iload_n 1, 1) := by decide +kernel
theorem dSc_valueOf_17 : decode cSc_valueOf 17 = .ok (.laload, 1) := by decide +kernel
theorem dSc_valueOf_18 : decode cSc_valueOf 18 = .ok (.goto 4, 3) := by decide +kernel
theorem dSc_valueOf_21 : decode cSc_valueOf 21 = .ok (.lconst 0, 1) := by decide +kernel
theorem dSc_valueOf_22 : decode cSc_valueOf 22 = .ok (.lreturn, 1) := by decide +kernel
abbrev cSc_keep : ByteArray := prog_7_method_5_code
def ySc_keep : MethodName := ⟨RSc, "keep", "(IJ)V"⟩
def wsSc_keep : List Cond := .code ySc_keep cSc_keep 7 none :: TB
theorem dSc_keep_0 : decode cSc_keep 0 = .ok (.iload_n 1, 1) := by decide +kernel
theorem dSc_keep_1 : decode cSc_keep 1 = .ok (.ifCond .lt 11, 3) := by decide +kernel
theorem dSc_keep_4 : decode cSc_keep 4 = .ok (.iload_n 1, 1) := by decide +kernel
theorem dSc_keep_5 : decode cSc_keep 5 = .ok (.aload_n 0, 1) := by decide +kernel
theorem dSc_keep_6 : decode cSc_keep 6 = .ok (.getfield 22, 3) := by decide +kernel
theorem dSc_keep_9 : decode cSc_keep 9 = .ok (.if_icmp .lt 4, 3) := by decide +kernel
theorem dSc_keep_12 : decode cSc_keep 12 = .ok (.return_, 1) := by decide +kernel
theorem dSc_keep_13 : decode cSc_keep 13 = .ok (.aload_n 0, 1) := by decide +kernel
theorem dSc_keep_14 : decode cSc_keep 14 = .ok (.getfield 9, 3) := by decide +kernel
theorem dSc_keep_17 : decode cSc_keep 17 = .ok (.iload_n 1, 1) := by decide +kernel
theorem dSc_keep_18 : decode cSc_keep 18 = .ok (.iaload, 1) := by decide +kernel
theorem dSc_keep_19 : decode cSc_keep 19 = .ok (.istore 4, 2) := by decide +kernel
theorem dSc_keep_21 : decode cSc_keep 21 = .ok (.iload 4, 2) := by decide +kernel
theorem dSc_keep_23 : decode cSc_keep 23 = .ok (.iconst 1, 1) := by decide +kernel
theorem dSc_keep_24 : decode cSc_keep 24 = .ok (.if_icmp .lt 19, 3) := by decide +kernel
theorem dSc_keep_27 : decode cSc_keep 27 = .ok (.iload 4, 2) := by decide +kernel
theorem dSc_keep_29 : decode cSc_keep 29 = .ok (.bipush 18, 2) := by decide +kernel
theorem dSc_keep_31 : decode cSc_keep 31 = .ok (.if_icmp .gt 12, 3) := by decide +kernel
theorem dSc_keep_34 : decode cSc_keep 34 = .ok (.getstatic 30, 3) := by decide +kernel
theorem dSc_keep_37 : decode cSc_keep 37 = .ok (.iload 4, 2) := by decide +kernel
theorem dSc_keep_39 : decode cSc_keep 39 = .ok (.laload, 1) := by decide +kernel
theorem dSc_keep_40 : decode cSc_keep 40 = .ok (.goto 4, 3) := by decide +kernel
theorem dSc_keep_43 : decode cSc_keep 43 = .ok (.lconst 0, 1) := by decide +kernel
theorem dSc_keep_44 : decode cSc_keep 44 = .ok (.lstore 5, 2) := by decide +kernel
theorem dSc_keep_46 : decode cSc_keep 46 = .ok (.aload_n 0, 1) := by decide +kernel
theorem dSc_keep_47 : decode cSc_keep 47 = .ok (.getfield 15, 3) := by decide +kernel
theorem dSc_keep_50 : decode cSc_keep 50 = .ok (.iload_n 1, 1) := by decide +kernel
theorem dSc_keep_51 : decode cSc_keep 51 = .ok (.lload 5, 2) := by decide +kernel
theorem dSc_keep_53 : decode cSc_keep 53 = .ok (.lconst 0, 1) := by decide +kernel
theorem dSc_keep_54 : decode cSc_keep 54 = .ok (.lcmp, 1) := by decide +kernel
theorem dSc_keep_55 : decode cSc_keep 55 = .ok (.ifCond .le 10, 3) := by decide +kernel
theorem dSc_keep_58 : decode cSc_keep 58 = .ok (.lload_n 2, 1) := by decide +kernel
theorem dSc_keep_59 : decode cSc_keep 59 = .ok (.lload 5, 2) := by decide +kernel
theorem dSc_keep_61 : decode cSc_keep 61 = .ok (.lrem, 1) := by decide +kernel
theorem dSc_keep_62 : decode cSc_keep 62 = .ok (.goto 4, 3) := by decide +kernel
theorem dSc_keep_65 : decode cSc_keep 65 = .ok (.lconst 0, 1) := by decide +kernel
theorem dSc_keep_66 : decode cSc_keep 66 = .ok (.lastore, 1) := by decide +kernel
theorem dSc_keep_67 : decode cSc_keep 67 = .ok (.return_, 1) := by decide +kernel
abbrev cSc_takenOf : ByteArray := prog_7_method_6_code
def ySc_takenOf : MethodName := ⟨RSc, "takenOf", "(I)I"⟩
def wsSc_takenOf : List Cond := .code ySc_takenOf cSc_takenOf 2 (some .int) :: TB
theorem dSc_takenOf_0 : decode cSc_takenOf 0 = .ok (.iload_n 1, 1) := by decide +kernel
theorem dSc_takenOf_1 : decode cSc_takenOf 1 = .ok (.ifCond .lt 21, 3) := by decide +kernel
theorem dSc_takenOf_4 : decode cSc_takenOf 4 = .ok (.iload_n 1, 1) := by decide +kernel
theorem dSc_takenOf_5 : decode cSc_takenOf 5 = .ok (.aload_n 0, 1) := by decide +kernel
theorem dSc_takenOf_6 : decode cSc_takenOf 6 = .ok (.getfield 19, 3) := by decide +kernel
theorem dSc_takenOf_9 : decode cSc_takenOf 9 = .ok (.arraylength, 1) := by decide +kernel
theorem dSc_takenOf_10 : decode cSc_takenOf 10 = .ok (.if_icmp .ge 12, 3) := by decide +kernel
theorem dSc_takenOf_13 : decode cSc_takenOf 13 = .ok (.aload_n 0, 1) := by decide +kernel
theorem dSc_takenOf_14 : decode cSc_takenOf 14 = .ok (.getfield 19, 3) := by decide +kernel
theorem dSc_takenOf_17 : decode cSc_takenOf 17 = .ok (.iload_n 1, 1) := by decide +kernel
theorem dSc_takenOf_18 : decode cSc_takenOf 18 = .ok (.iaload, 1) := by decide +kernel
theorem dSc_takenOf_19 : decode cSc_takenOf 19 = .ok (.goto 4, 3) := by decide +kernel
theorem dSc_takenOf_22 : decode cSc_takenOf 22 = .ok (.iconst 0, 1) := by decide +kernel
theorem dSc_takenOf_23 : decode cSc_takenOf 23 = .ok (.ireturn, 1) := by decide +kernel
abbrev cSc_take : ByteArray := prog_7_method_7_code
def ySc_take : MethodName := ⟨RSc, "take", "(I)V"⟩
def wsSc_take : List Cond := .code ySc_take cSc_take 2 none :: TB
theorem dSc_take_0 : decode cSc_take 0 = .ok (.iload_n 1, 1) := by decide +kernel
theorem dSc_take_1 : decode cSc_take 1 = .ok (.ifCond .lt 22, 3) := by decide +kernel
theorem dSc_take_4 : decode cSc_take 4 = .ok (.iload_n 1, 1) := by decide +kernel
theorem dSc_take_5 : decode cSc_take 5 = .ok (.aload_n 0, 1) := by decide +kernel
theorem dSc_take_6 : decode cSc_take 6 = .ok (.getfield 19, 3) := by decide +kernel
theorem dSc_take_9 : decode cSc_take 9 = .ok (.arraylength, 1) := by decide +kernel
theorem dSc_take_10 : decode cSc_take 10 = .ok (.if_icmp .ge 13, 3) := by decide +kernel
theorem dSc_take_13 : decode cSc_take 13 = .ok (.aload_n 0, 1) := by decide +kernel
theorem dSc_take_14 : decode cSc_take 14 = .ok (.getfield 19, 3) := by decide +kernel
theorem dSc_take_17 : decode cSc_take 17 = .ok (.iload_n 1, 1) := by decide +kernel
theorem dSc_take_18 : decode cSc_take 18 = .ok (.dup2, 1) := by decide +kernel
theorem dSc_take_19 : decode cSc_take 19 = .ok (.iaload, 1) := by decide +kernel
theorem dSc_take_20 : decode cSc_take 20 = .ok (.iconst 1, 1) := by decide +kernel
theorem dSc_take_21 : decode cSc_take 21 = .ok (.iadd, 1) := by decide +kernel
theorem dSc_take_22 : decode cSc_take 22 = .ok (.iastore, 1) := by decide +kernel
theorem dSc_take_23 : decode cSc_take 23 = .ok (.return_, 1) := by decide +kernel
abbrev cSc_copyFrom : ByteArray := prog_7_method_8_code
def ySc_copyFrom : MethodName := ⟨RSc, "copyFrom", "(LParagraphWalk$Scene;)V"⟩
def wsSc_copyFrom : List Cond := .code ySc_copyFrom cSc_copyFrom 2 none :: TB
theorem dSc_copyFrom_0 : decode cSc_copyFrom 0 = .ok (.aload_n 0, 1) := by decide +kernel
theorem dSc_copyFrom_1 : decode cSc_copyFrom 1 = .ok (.aload_n 1, 1) := by decide +kernel
theorem dSc_copyFrom_2 : decode cSc_copyFrom 2 = .ok (.getfield 22, 3) := by decide +kernel
theorem dSc_copyFrom_5 : decode cSc_copyFrom 5 = .ok (.putfield 22, 3) := by decide +kernel
theorem dSc_copyFrom_8 : decode cSc_copyFrom 8 = .ok (.aload_n 1, 1) := by decide +kernel
theorem dSc_copyFrom_9 : decode cSc_copyFrom 9 = .ok (.getfield 9, 3) := by decide +kernel
theorem dSc_copyFrom_12 : decode cSc_copyFrom 12 = .ok (.iconst 0, 1) := by decide +kernel
theorem dSc_copyFrom_13 : decode cSc_copyFrom 13 = .ok (.aload_n 0, 1) := by decide +kernel
theorem dSc_copyFrom_14 : decode cSc_copyFrom 14 = .ok (.getfield 9, 3) := by decide +kernel
theorem dSc_copyFrom_17 : decode cSc_copyFrom 17 = .ok (.iconst 0, 1) := by decide +kernel
theorem dSc_copyFrom_18 : decode cSc_copyFrom 18 = .ok (.aload_n 0, 1) := by decide +kernel
theorem dSc_copyFrom_19 : decode cSc_copyFrom 19 = .ok (.getfield 9, 3) := by decide +kernel
theorem dSc_copyFrom_22 : decode cSc_copyFrom 22 = .ok (.arraylength, 1) := by decide +kernel
theorem dSc_copyFrom_23 : decode cSc_copyFrom 23 = .ok (.invokestatic 33, 3) := by decide +kernel
theorem dSc_copyFrom_26 : decode cSc_copyFrom 26 = .ok (.aload_n 1, 1) := by decide +kernel
theorem dSc_copyFrom_27 : decode cSc_copyFrom 27 = .ok (.getfield 15, 3) := by decide +kernel
theorem dSc_copyFrom_30 : decode cSc_copyFrom 30 = .ok (.iconst 0, 1) := by decide +kernel
theorem dSc_copyFrom_31 : decode cSc_copyFrom 31 = .ok (.aload_n 0, 1) := by decide +kernel
theorem dSc_copyFrom_32 : decode cSc_copyFrom 32 = .ok (.getfield 15, 3) := by decide +kernel
theorem dSc_copyFrom_35 : decode cSc_copyFrom 35 = .ok (.iconst 0, 1) := by decide +kernel
theorem dSc_copyFrom_36 : decode cSc_copyFrom 36 = .ok (.aload_n 0, 1) := by decide +kernel
theorem dSc_copyFrom_37 : decode cSc_copyFrom 37 = .ok (.getfield 15, 3) := by decide +kernel
theorem dSc_copyFrom_40 : decode cSc_copyFrom 40 = .ok (.arraylength, 1) := by decide +kernel
theorem dSc_copyFrom_41 : decode cSc_copyFrom 41 = .ok (.invokestatic 33, 3) := by decide +kernel
theorem dSc_copyFrom_44 : decode cSc_copyFrom 44 = .ok (.aload_n 1, 1) := by decide +kernel
theorem dSc_copyFrom_45 : decode cSc_copyFrom 45 = .ok (.getfield 19, 3) := by decide +kernel
theorem dSc_copyFrom_48 : decode cSc_copyFrom 48 = .ok (.iconst 0, 1) := by decide +kernel
theorem dSc_copyFrom_49 : decode cSc_copyFrom 49 = .ok (.aload_n 0, 1) := by decide +kernel
theorem dSc_copyFrom_50 : decode cSc_copyFrom 50 = .ok (.getfield 19, 3) := by decide +kernel
theorem dSc_copyFrom_53 : decode cSc_copyFrom 53 = .ok (.iconst 0, 1) := by decide +kernel
theorem dSc_copyFrom_54 : decode cSc_copyFrom 54 = .ok (.aload_n 0, 1) := by decide +kernel
theorem dSc_copyFrom_55 : decode cSc_copyFrom 55 = .ok (.getfield 19, 3) := by decide +kernel
theorem dSc_copyFrom_58 : decode cSc_copyFrom 58 = .ok (.arraylength, 1) := by decide +kernel
theorem dSc_copyFrom_59 : decode cSc_copyFrom 59 = .ok (.invokestatic 33, 3) := by decide +kernel
theorem dSc_copyFrom_62 : decode cSc_copyFrom 62 = .ok (.return_, 1) := by decide +kernel
abbrev cSc_isLike : ByteArray := prog_7_method_9_code
def ySc_isLike : MethodName := ⟨RSc, "isLike", "(LParagraphWalk$Scene;)Z"⟩
def wsSc_isLike : List Cond := .code ySc_isLike cSc_isLike 3 (some .boolean) :: TB
theorem dSc_isLike_0 : decode cSc_isLike 0 = .ok (.iconst 0, 1) := by decide +kernel
theorem dSc_isLike_1 : decode cSc_isLike 1 = .ok (.istore_n 2, 1) := by decide +kernel
theorem dSc_isLike_2 : decode cSc_isLike 2 = .ok (.iload_n 2, 1) := by decide +kernel
theorem dSc_isLike_3 : decode cSc_isLike 3 = .ok (.aload_n 0, 1) := by decide +kernel
theorem dSc_isLike_4 : decode cSc_isLike 4 = .ok (.getfield 15, 3) := by decide +kernel
theorem dSc_isLike_7 : decode cSc_isLike 7 = .ok (.arraylength, 1) := by decide +kernel
theorem dSc_isLike_8 : decode cSc_isLike 8 = .ok (.if_icmp .ge 27, 3) := by decide +kernel
theorem dSc_isLike_11 : decode cSc_isLike 11 = .ok (.aload_n 0, 1) := by decide +kernel
theorem dSc_isLike_12 : decode cSc_isLike 12 = .ok (.getfield 15, 3) := by decide +kernel
theorem dSc_isLike_15 : decode cSc_isLike 15 = .ok (.iload_n 2, 1) := by decide +kernel
theorem dSc_isLike_16 : decode cSc_isLike 16 = .ok (.laload, 1) := by decide +kernel
theorem dSc_isLike_17 : decode cSc_isLike 17 = .ok (.aload_n 1, 1) := by decide +kernel
theorem dSc_isLike_18 : decode cSc_isLike 18 = .ok (.getfield 15, 3) := by decide +kernel
theorem dSc_isLike_21 : decode cSc_isLike 21 = .ok (.iload_n 2, 1) := by decide +kernel
theorem dSc_isLike_22 : decode cSc_isLike 22 = .ok (.laload, 1) := by decide +kernel
theorem dSc_isLike_23 : decode cSc_isLike 23 = .ok (.lcmp, 1) := by decide +kernel
theorem dSc_isLike_24 : decode cSc_isLike 24 = .ok (.ifCond .eq 5, 3) := by decide +kernel
theorem dSc_isLike_27 : decode cSc_isLike 27 = .ok (.iconst 0, 1) := by decide +kernel
theorem dSc_isLike_28 : decode cSc_isLike 28 = .ok (.ireturn, 1) := by decide +kernel
theorem dSc_isLike_29 : decode cSc_isLike 29 = .ok (.iinc 2 1, 3) := by decide +kernel
theorem dSc_isLike_32 : decode cSc_isLike 32 = .ok (.goto (-30), 3) := by decide +kernel
theorem dSc_isLike_35 : decode cSc_isLike 35 = .ok (.iconst 0, 1) := by decide +kernel
theorem dSc_isLike_36 : decode cSc_isLike 36 = .ok (.istore_n 2, 1) := by decide +kernel
theorem dSc_isLike_37 : decode cSc_isLike 37 = .ok (.iload_n 2, 1) := by decide +kernel
theorem dSc_isLike_38 : decode cSc_isLike 38 = .ok (.aload_n 0, 1) := by decide +kernel
theorem dSc_isLike_39 : decode cSc_isLike 39 = .ok (.getfield 19, 3) := by decide +kernel
theorem dSc_isLike_42 : decode cSc_isLike 42 = .ok (.arraylength, 1) := by decide +kernel
theorem dSc_isLike_43 : decode cSc_isLike 43 = .ok (.if_icmp .ge 26, 3) := by decide +kernel
theorem dSc_isLike_46 : decode cSc_isLike 46 = .ok (.aload_n 0, 1) := by decide +kernel
theorem dSc_isLike_47 : decode cSc_isLike 47 = .ok (.getfield 19, 3) := by decide +kernel
theorem dSc_isLike_50 : decode cSc_isLike 50 = .ok (.iload_n 2, 1) := by decide +kernel
theorem dSc_isLike_51 : decode cSc_isLike 51 = .ok (.iaload, 1) := by decide +kernel
theorem dSc_isLike_52 : decode cSc_isLike 52 = .ok (.aload_n 1, 1) := by decide +kernel
theorem dSc_isLike_53 : decode cSc_isLike 53 = .ok (.getfield 19, 3) := by decide +kernel
theorem dSc_isLike_56 : decode cSc_isLike 56 = .ok (.iload_n 2, 1) := by decide +kernel
theorem dSc_isLike_57 : decode cSc_isLike 57 = .ok (.iaload, 1) := by decide +kernel
theorem dSc_isLike_58 : decode cSc_isLike 58 = .ok (.if_icmp .eq 5, 3) := by decide +kernel
theorem dSc_isLike_61 : decode cSc_isLike 61 = .ok (.iconst 0, 1) := by decide +kernel
theorem dSc_isLike_62 : decode cSc_isLike 62 = .ok (.ireturn, 1) := by decide +kernel
theorem dSc_isLike_63 : decode cSc_isLike 63 = .ok (.iinc 2 1, 3) := by decide +kernel
theorem dSc_isLike_66 : decode cSc_isLike 66 = .ok (.goto (-29), 3) := by decide +kernel
theorem dSc_isLike_69 : decode cSc_isLike 69 = .ok (.iconst 1, 1) := by decide +kernel
theorem dSc_isLike_70 : decode cSc_isLike 70 = .ok (.ireturn, 1) := by decide +kernel
