abbrev cMo_init : ByteArray := prog_11_method_1_code
def yMo_init : MethodName := ⟨RMo, "<init>", "(J)V"⟩
def wsMo_init : List Cond := .code yMo_init cMo_init 3 none :: TB
theorem dMo_init_0 : decode cMo_init 0 = .ok (.aload_n 0, 1) := by decide +kernel
theorem dMo_init_1 : decode cMo_init 1 = .ok (.invokespecial 1, 3) := by decide +kernel
theorem dMo_init_4 : decode cMo_init 4 = .ok (.aload_n 0, 1) := by decide +kernel
theorem dMo_init_5 : decode cMo_init 5 = .ok (.bipush 40, 2) := by decide +kernel
theorem dMo_init_7 : decode cMo_init 7 = .ok (.newarray .int, 2) := by decide +kernel
theorem dMo_init_9 : decode cMo_init 9 = .ok (.putfield 7, 3) := by decide +kernel
theorem dMo_init_12 : decode cMo_init 12 = .ok (.aload_n 0, 1) := by decide +kernel
theorem dMo_init_13 : decode cMo_init 13 = .ok (.bipush 40, 2) := by decide +kernel
theorem dMo_init_15 : decode cMo_init 15 = .ok (.newarray .long, 2) := by decide +kernel
theorem dMo_init_17 : decode cMo_init 17 = .ok (.putfield 13, 3) := by decide +kernel
theorem dMo_init_20 : decode cMo_init 20 = .ok (.aload_n 0, 1) := by decide +kernel
theorem dMo_init_21 : decode cMo_init 21 = .ok (.sipush 201, 3) := by decide +kernel
theorem dMo_init_24 : decode cMo_init 24 = .ok (.newarray .int, 2) := by decide +kernel
theorem dMo_init_26 : decode cMo_init 26 = .ok (.putfield 17, 3) := by decide +kernel
theorem dMo_init_29 : decode cMo_init 29 = .ok (.aload_n 0, 1) := by decide +kernel
theorem dMo_init_30 : decode cMo_init 30 = .ok (.sipush 201, 3) := by decide +kernel
theorem dMo_init_33 : decode cMo_init 33 = .ok (.newarray .int, 2) := by decide +kernel
theorem dMo_init_35 : decode cMo_init 35 = .ok (.putfield 20, 3) := by decide +kernel
theorem dMo_init_38 : decode cMo_init 38 = .ok (.aload_n 0, 1) := by decide +kernel
theorem dMo_init_39 : decode cMo_init 39 = .ok (.sipush 201, 3) := by decide +kernel
theorem dMo_init_42 : decode cMo_init 42 = .ok (.newarray .int, 2) := by decide +kernel
theorem dMo_init_44 : decode cMo_init 44 = .ok (.putfield 23, 3) := by decide +kernel
theorem dMo_init_47 : decode cMo_init 47 = .ok (.aload_n 0, 1) := by decide +kernel
theorem dMo_init_48 : decode cMo_init 48 = .ok (.sipush 201, 3) := by decide +kernel
theorem dMo_init_51 : decode cMo_init 51 = .ok (.newarray .int, 2) := by decide +kernel
theorem dMo_init_53 : decode cMo_init 53 = .ok (.putfield 26, 3) := by decide +kernel
theorem dMo_init_56 : decode cMo_init 56 = .ok (.aload_n 0, 1) := by decide +kernel
theorem dMo_init_57 : decode cMo_init 57 = .ok (.sipush 201, 3) := by decide +kernel
theorem dMo_init_60 : decode cMo_init 60 = .ok (.newarray .int, 2) := by decide +kernel
theorem dMo_init_62 : decode cMo_init 62 = .ok (.putfield 29, 3) := by decide +kernel
theorem dMo_init_65 : decode cMo_init 65 = .ok (.aload_n 0, 1) := by decide +kernel
theorem dMo_init_66 : decode cMo_init 66 = .ok (.sipush 4020, 3) := by decide +kernel
theorem dMo_init_69 : decode cMo_init 69 = .ok (.newarray .int, 2) := by decide +kernel
theorem dMo_init_71 : decode cMo_init 71 = .ok (.putfield 32, 3) := by decide +kernel
theorem dMo_init_74 : decode cMo_init 74 = .ok (.aload_n 0, 1) := by decide +kernel
theorem dMo_init_75 : decode cMo_init 75 = .ok (.bipush 31, 2) := by decide +kernel
theorem dMo_init_77 : decode cMo_init 77 = .ok (.newarray .int, 2) := by decide +kernel
theorem dMo_init_79 : decode cMo_init 79 = .ok (.putfield 35, 3) := by decide +kernel
theorem dMo_init_82 : decode cMo_init 82 = .ok (.aload_n 0, 1) := by decide +kernel
theorem dMo_init_83 : decode cMo_init 83 = .ok (.bipush 31, 2) := by decide +kernel
theorem dMo_init_85 : decode cMo_init 85 = .ok (.newarray .int, 2) := by decide +kernel
theorem dMo_init_87 : decode cMo_init 87 = .ok (.putfield 38, 3) := by decide +kernel
theorem dMo_init_90 : decode cMo_init 90 = .ok (.aload_n 0, 1) := by decide +kernel
theorem dMo_init_91 : decode cMo_init 91 = .ok (.sipush 640, 3) := by decide +kernel
theorem dMo_init_94 : decode cMo_init 94 = .ok (.newarray .int, 2) := by decide +kernel
theorem dMo_init_96 : decode cMo_init 96 = .ok (.putfield 41, 3) := by decide +kernel
theorem dMo_init_99 : decode cMo_init 99 = .ok (.aload_n 0, 1) := by decide +kernel
theorem dMo_init_100 : decode cMo_init 100 = .ok (.sipush 1000, 3) := by decide +kernel
theorem dMo_init_103 : decode cMo_init 103 = .ok (.newarray .int, 2) := by decide +kernel
theorem dMo_init_105 : decode cMo_init 105 = .ok (.putfield 44, 3) := by decide +kernel
theorem dMo_init_108 : decode cMo_init 108 = .ok (.aload_n 0, 1) := by decide +kernel
theorem dMo_init_109 : decode cMo_init 109 = .ok (.sipush 420, 3) := by decide +kernel
theorem dMo_init_112 : decode cMo_init 112 = .ok (.newarray .int, 2) := by decide +kernel
theorem dMo_init_114 : decode cMo_init 114 = .ok (.putfield 47, 3) := by decide +kernel
theorem dMo_init_117 : decode cMo_init 117 = .ok (.aload_n 0, 1) := by decide +kernel
theorem dMo_init_118 : decode cMo_init 118 = .ok (.sipush 210, 3) := by decide +kernel
theorem dMo_init_121 : decode cMo_init 121 = .ok (.newarray .long, 2) := by decide +kernel
theorem dMo_init_123 : decode cMo_init 123 = .ok (.putfield 50, 3) := by decide +kernel
theorem dMo_init_126 : decode cMo_init 126 = .ok (.aload_n 0, 1) := by decide +kernel
theorem dMo_init_127 : decode cMo_init 127 = .ok (.lload_n 1, 1) := by decide +kernel
theorem dMo_init_128 : decode cMo_init 128 = .ok (.invokestatic 53, 3) := by decide +kernel
theorem dMo_init_131 : decode cMo_init 131 = .ok (.putfield 57, 3) := by decide +kernel
theorem dMo_init_134 : decode cMo_init 134 = .ok (.return_, 1) := by decide +kernel
abbrev cMo_held : ByteArray := prog_11_method_2_code
def yMo_held : MethodName := ⟨RMo, "held", "(J)J"⟩
def wsMo_held : List Cond := .code yMo_held cMo_held 2 (some .long) :: TB
theorem dMo_held_0 : decode cMo_held 0 = .ok (.lload_n 0, 1) := by decide +kernel
theorem dMo_held_1 : decode cMo_held 1 = .ok (.lconst 0, 1) := by decide +kernel
theorem dMo_held_2 : decode cMo_held 2 = .ok (.lcmp, 1) := by decide +kernel
theorem dMo_held_3 : decode cMo_held 3 = .ok (.ifCond .ge 7, 3) := by decide +kernel
theorem dMo_held_6 : decode cMo_held 6 = .ok (.lconst 0, 1) := by decide +kernel
theorem dMo_held_7 : decode cMo_held 7 = .ok (.goto 18, 3) := by decide +kernel
theorem dMo_held_10 : decode cMo_held 10 = .ok (.lload_n 0, 1) := by decide +kernel
theorem dMo_held_11 : decode cMo_held 11 = .ok (.ldc2_w 61, 3) := by decide +kernel
theorem dMo_held_14 : decode cMo_held 14 = .ok (.lcmp, 1) := by decide +kernel
theorem dMo_held_15 : decode cMo_held 15 = .ok (.ifCond .le 9, 3) := by decide +kernel
theorem dMo_held_18 : decode cMo_held 18 = .ok (.ldc2_w 61, 3) := by decide +kernel
theorem dMo_held_21 : decode cMo_held 21 = .ok (.goto 4, 3) := by decide +kernel
theorem dMo_held_24 : decode cMo_held 24 = .ok (.lload_n 0, 1) := by decide +kernel
theorem dMo_held_25 : decode cMo_held 25 = .ok (.lreturn, 1) := by decide +kernel
abbrev cMo_thrown : ByteArray := prog_11_method_3_code
def yMo_thrown : MethodName := ⟨RMo, "thrown", "()I"⟩
def wsMo_thrown : List Cond := .code yMo_thrown cMo_thrown 1 (some .int) :: TB
theorem dMo_thrown_0 : decode cMo_thrown 0 = .ok (.aload_n 0, 1) := by decide +kernel
theorem dMo_thrown_1 : decode cMo_thrown 1 = .ok (.getfield 63, 3) := by decide +kernel
theorem dMo_thrown_4 : decode cMo_thrown 4 = .ok (.ireturn, 1) := by decide +kernel
abbrev cMo_cut : ByteArray := prog_11_method_4_code
def yMo_cut : MethodName := ⟨RMo, "cut", "(IJ)J"⟩
def wsMo_cut : List Cond := .code yMo_cut cMo_cut 6 (some .long) :: TB
theorem dMo_cut_0 : decode cMo_cut 0 = .ok (.lconst 1, 1) := by decide +kernel
theorem dMo_cut_1 : decode cMo_cut 1 = .ok (.lstore_n 3, 1) := by decide +kernel
theorem dMo_cut_2 : decode cMo_cut 2 = .ok (.iconst 0, 1) := by decide +kernel
theorem dMo_cut_3 : decode cMo_cut 3 = .ok (.istore 5, 2) := by decide +kernel
theorem dMo_cut_5 : decode cMo_cut 5 = .ok (.iload 5, 2) := by decide +kernel
theorem dMo_cut_7 : decode cMo_cut 7 = .ok (.iload_n 0, 1) := by decide +kernel
theorem dMo_cut_8 : decode cMo_cut 8 = .ok (.if_icmp .ge 15, 3) := by decide +kernel
theorem dMo_cut_11 : decode cMo_cut 11 = .ok (.lload_n 3, 1) := by decide +kernel
theorem dMo_cut_12 : decode cMo_cut 12 = .ok (.ldc2_w 67, 3) := by decide +kernel
theorem dMo_cut_15 : decode cMo_cut 15 = .ok (.lmul, 1) := by decide +kernel
theorem dMo_cut_16 : decode cMo_cut 16 = .ok (.lstore_n 3, 1) := by decide +kernel
theorem dMo_cut_17 : decode cMo_cut 17 = .ok (.iinc 5 1, 3) := by decide +kernel
theorem dMo_cut_20 : decode cMo_cut 20 = .ok (.goto (-15), 3) := by decide +kernel
theorem dMo_cut_23 : decode cMo_cut 23 = .ok (.lload_n 1, 1) := by decide +kernel
theorem dMo_cut_24 : decode cMo_cut 24 = .ok (.lload_n 3, 1) := by decide +kernel
theorem dMo_cut_25 : decode cMo_cut 25 = .ok (.lrem, 1) := by decide +kernel
theorem dMo_cut_26 : decode cMo_cut 26 = .ok (.lreturn, 1) := by decide +kernel
abbrev cMo_cell : ByteArray := prog_11_method_5_code
def yMo_cell : MethodName := ⟨RMo, "cell", "(IJ)I"⟩
def wsMo_cell : List Cond := .code yMo_cell cMo_cell 4 (some .int) :: TB
theorem dMo_cell_0 : decode cMo_cell 0 = .ok (.aload_n 0, 1) := by decide +kernel
theorem dMo_cell_1 : decode cMo_cell 1 = .ok (.iconst 0, 1) := by decide +kernel
theorem dMo_cell_2 : decode cMo_cell 2 = .ok (.putfield 63, 3) := by decide +kernel
theorem dMo_cell_5 : decode cMo_cell 5 = .ok (.iload_n 1, 1) := by decide +kernel
theorem dMo_cell_6 : decode cMo_cell 6 = .ok (.iconst 1, 1) := by decide +kernel
theorem dMo_cell_7 : decode cMo_cell 7 = .ok (.if_icmp .lt 9, 3) := by decide +kernel
theorem dMo_cell_10 : decode cMo_cell 10 = .ok (.iload_n 1, 1) := by decide +kernel
theorem dMo_cell_11 : decode cMo_cell 11 = .ok (.bipush 18, 2) := by decide +kernel
theorem dMo_cell_13 : decode cMo_cell 13 = .ok (.if_icmp .le 6, 3) := by decide +kernel
theorem dMo_cell_16 : decode cMo_cell 16 = .ok (.bipush (-4), 2) := by decide +kernel
theorem dMo_cell_18 : decode cMo_cell 18 = .ok (.ireturn, 1) := by decide +kernel
theorem dMo_cell_19 : decode cMo_cell 19 = .ok (.aload_n 0, 1) := by decide +kernel
theorem dMo_cell_20 : decode cMo_cell 20 = .ok (.getfield 69, 3) := by decide +kernel
theorem dMo_cell_23 : decode cMo_cell 23 = .ok (.bipush 40, 2) := by decide +kernel
theorem dMo_cell_25 : decode cMo_cell 25 = .ok (.if_icmp .ne 5, 3) := by decide +kernel
theorem dMo_cell_28 : decode cMo_cell 28 = .ok (.iconst (-1), 1) := by decide +kernel
theorem dMo_cell_29 : decode cMo_cell 29 = .ok (.ireturn, 1) := by decide +kernel
theorem dMo_cell_30 : decode cMo_cell 30 = .ok (.aload_n 0, 1) := by decide +kernel
theorem dMo_cell_31 : decode cMo_cell 31 = .ok (.getfield 7, 3) := by decide +kernel
theorem dMo_cell_34 : decode cMo_cell 34 = .ok (.aload_n 0, 1) := by decide +kernel
theorem dMo_cell_35 : decode cMo_cell 35 = .ok (.getfield 69, 3) := by decide +kernel
theorem dMo_cell_38 : decode cMo_cell 38 = .ok (.iload_n 1, 1) := by decide +kernel
theorem dMo_cell_39 : decode cMo_cell 39 = .ok (.iastore, 1) := by decide +kernel
theorem dMo_cell_40 : decode cMo_cell 40 = .ok (.aload_n 0, 1) := by decide +kernel
theorem dMo_cell_41 : decode cMo_cell 41 = .ok (.getfield 13, 3) := by decide +kernel
theorem dMo_cell_44 : decode cMo_cell 44 = .ok (.aload_n 0, 1) := by decide +kernel
theorem dMo_cell_45 : decode cMo_cell 45 = .ok (.getfield 69, 3) := by decide +kernel
theorem dMo_cell_48 : decode cMo_cell 48 = .ok (.iload_n 1, 1) := by decide +kernel
theorem dMo_cell_49 : decode cMo_cell 49 = .ok (.lload_n 2, 1) := by decide +kernel
theorem dMo_cell_50 : decode cMo_cell 50 = .ok (.invokestatic 72, 3) := by decide +kernel
theorem dMo_cell_53 : decode cMo_cell 53 = .ok (.lastore, 1) := by decide +kernel
theorem dMo_cell_54 : decode cMo_cell 54 = .ok (.aload_n 0, 1) := by decide +kernel
theorem dMo_cell_55 : decode cMo_cell 55 = .ok (.dup, 1) := by decide +kernel
theorem dMo_cell_56 : decode cMo_cell 56 = .ok (.getfield 69, 3) := by decide +kernel
theorem dMo_cell_59 : decode cMo_cell 59 = .ok (.iconst 1, 1) := by decide +kernel
theorem dMo_cell_60 : decode cMo_cell 60 = .ok (.iadd, 1) := by decide +kernel
theorem dMo_cell_61 : decode cMo_cell 61 = .ok (.putfield 69, 3) := by decide +kernel
theorem dMo_cell_64 : decode cMo_cell 64 = .ok (.aload_n 0, 1) := by decide +kernel
theorem dMo_cell_65 : decode cMo_cell 65 = .ok (.getfield 69, 3) := by decide +kernel
theorem dMo_cell_68 : decode cMo_cell 68 = .ok (.iconst 1, 1) := by decide +kernel
theorem dMo_cell_69 : decode cMo_cell 69 = .ok (.isub, 1) := by decide +kernel
theorem dMo_cell_70 : decode cMo_cell 70 = .ok (.ireturn, 1) := by decide +kernel
abbrev cMo_isKind : ByteArray := prog_11_method_6_code
def yMo_isKind : MethodName := ⟨RMo, "isKind", "(II)Z"⟩
def wsMo_isKind : List Cond := .code yMo_isKind cMo_isKind 3 (some .boolean) :: TB
theorem dMo_isKind_0 : decode cMo_isKind 0 = .ok (.iload_n 1, 1) := by decide +kernel
theorem dMo_isKind_1 : decode cMo_isKind 1 = .ok (.ifCond .le 25, 3) := by decide +kernel
theorem dMo_isKind_4 : decode cMo_isKind 4 = .ok (.iload_n 1, 1) := by decide +kernel
theorem dMo_isKind_5 : decode cMo_isKind 5 = .ok (.aload_n 0, 1) := by decide +kernel
theorem dMo_isKind_6 : decode cMo_isKind 6 = .ok (.getfield 76, 3) := by decide +kernel
theorem dMo_isKind_9 : decode cMo_isKind 9 = .ok (.if_icmp .gt 17, 3) := by decide +kernel
theorem dMo_isKind_12 : decode cMo_isKind 12 = .ok (.aload_n 0, 1) := by decide +kernel
theorem dMo_isKind_13 : decode cMo_isKind 13 = .ok (.getfield 17, 3) := by decide +kernel
theorem dMo_isKind_16 : decode cMo_isKind 16 = .ok (.iload_n 1, 1) := by decide +kernel
theorem dMo_isKind_17 : decode cMo_isKind 17 = .ok (.iaload, 1) := by decide +kernel
theorem dMo_isKind_18 : decode cMo_isKind 18 = .ok (.iload_n 2, 1) := by decide +kernel
theorem dMo_isKind_19 : decode cMo_isKind 19 = .ok (.if_icmp .ne 7, 3) := by decide +kernel
theorem dMo_isKind_22 : decode cMo_isKind 22 = .ok (.iconst 1, 1) := by decide +kernel
theorem dMo_isKind_23 : decode cMo_isKind 23 = .ok (.goto 4, 3) := by decide +kernel
theorem dMo_isKind_26 : decode cMo_isKind 26 = .ok (.iconst 0, 1) := by decide +kernel
theorem dMo_isKind_27 : decode cMo_isKind 27 = .ok (.ireturn, 1) := by decide +kernel
abbrev cMo_isValue : ByteArray := prog_11_method_7_code
def yMo_isValue : MethodName := ⟨RMo, "isValue", "(I)Z"⟩
def wsMo_isValue : List Cond := .code yMo_isValue cMo_isValue 2 (some .boolean) :: TB
theorem dMo_isValue_0 : decode cMo_isValue 0 = .ok (.iload_n 1, 1) := by decide +kernel
theorem dMo_isValue_1 : decode cMo_isValue 1 = .ok (.ifCond .le 26, 3) := by decide +kernel
theorem dMo_isValue_4 : decode cMo_isValue 4 = .ok (.iload_n 1, 1) := by decide +kernel
theorem dMo_isValue_5 : decode cMo_isValue 5 = .ok (.aload_n 0, 1) := by decide +kernel
theorem dMo_isValue_6 : decode cMo_isValue 6 = .ok (.getfield 76, 3) := by decide +kernel
theorem dMo_isValue_9 : decode cMo_isValue 9 = .ok (.if_icmp .gt 18, 3) := by decide +kernel
theorem dMo_isValue_12 : decode cMo_isValue 12 = .ok (.aload_n 0, 1) := by decide +kernel
theorem dMo_isValue_13 : decode cMo_isValue 13 = .ok (.getfield 17, 3) := by decide +kernel
theorem dMo_isValue_16 : decode cMo_isValue 16 = .ok (.iload_n 1, 1) := by decide +kernel
theorem dMo_isValue_17 : decode cMo_isValue 17 = .ok (.iaload, 1) := by decide +kernel
theorem dMo_isValue_18 : decode cMo_isValue 18 = .ok (.bipush 8, 2) := by decide +kernel
theorem dMo_isValue_20 : decode cMo_isValue 20 = .ok (.if_icmp .ge 7, 3) := by decide +kernel
theorem dMo_isValue_23 : decode cMo_isValue 23 = .ok (.iconst 1, 1) := by decide +kernel
theorem dMo_isValue_24 : decode cMo_isValue 24 = .ok (.goto 4, 3) := by decide +kernel
theorem dMo_isValue_27 : decode cMo_isValue 27 = .ok (.iconst 0, 1) := by decide +kernel
theorem dMo_isValue_28 : decode cMo_isValue 28 = .ok (.ireturn, 1) := by decide +kernel
abbrev cMo_isStatement : ByteArray := prog_11_method_8_code
def yMo_isStatement : MethodName := ⟨RMo, "isStatement", "(I)Z"⟩
def wsMo_isStatement : List Cond := .code yMo_isStatement cMo_isStatement 2 (some .boolean) :: TB
theorem dMo_isStatement_0 : decode cMo_isStatement 0 = .ok (.iload_n 1, 1) := by decide +kernel
theorem dMo_isStatement_1 : decode cMo_isStatement 1 = .ok (.ifCond .le 59, 3) := by decide +kernel
theorem dMo_isStatement_4 : decode cMo_isStatement 4 = .ok (.iload_n 1, 1) := by decide +kernel
theorem dMo_isStatement_5 : decode cMo_isStatement 5 = .ok (.aload_n 0, 1) := by decide +kernel
theorem dMo_isStatement_6 : decode cMo_isStatement 6 = .ok (.getfield 76, 3) := by decide +kernel
theorem dMo_isStatement_9 : decode cMo_isStatement 9 = .ok (.if_icmp .gt 51, 3) := by decide +kernel
theorem dMo_isStatement_12 : decode cMo_isStatement 12 = .ok (.aload_n 0, 1) := by decide +kernel
theorem dMo_isStatement_13 : decode cMo_isStatement 13 = .ok (.getfield 17, 3) := by decide +kernel
theorem dMo_isStatement_16 : decode cMo_isStatement 16 = .ok (.iload_n 1, 1) := by decide +kernel
theorem dMo_isStatement_17 : decode cMo_isStatement 17 = .ok (.iaload, 1) := by decide +kernel
theorem dMo_isStatement_18 : decode cMo_isStatement 18 = .ok (.bipush 8, 2) := by decide +kernel
theorem dMo_isStatement_20 : decode cMo_isStatement 20 = .ok (.if_icmp .le 14, 3) := by decide +kernel
theorem dMo_isStatement_23 : decode cMo_isStatement 23 = .ok (.aload_n 0, 1) := by decide +kernel
theorem dMo_isStatement_24 : decode cMo_isStatement 24 = .ok (.getfield 17, 3) := by decide +kernel
theorem dMo_isStatement_27 : decode cMo_isStatement 27 = .ok (.iload_n 1, 1) := by decide +kernel
theorem dMo_isStatement_28 : decode cMo_isStatement 28 = .ok (.iaload, 1) := by decide +kernel
theorem dMo_isStatement_29 : decode cMo_isStatement 29 = .ok (.bipush 13, 2) := by decide +kernel
theorem dMo_isStatement_31 : decode cMo_isStatement 31 = .ok (.if_icmp .lt 25, 3) := by decide +kernel
theorem dMo_isStatement_34 : decode cMo_isStatement 34 = .ok (.aload_n 0, 1) := by decide +kernel
theorem dMo_isStatement_35 : decode cMo_isStatement 35 = .ok (.getfield 17, 3) := by decide +kernel
theorem dMo_isStatement_38 : decode cMo_isStatement 38 = .ok (.iload_n 1, 1) := by decide +kernel
theorem dMo_isStatement_39 : decode cMo_isStatement 39 = .ok (.iaload, 1) := by decide +kernel
theorem dMo_isStatement_40 : decode cMo_isStatement 40 = .ok (.bipush 14, 2) := by decide +kernel
theorem dMo_isStatement_42 : decode cMo_isStatement 42 = .ok (.if_icmp .eq 14, 3) := by decide +kernel
theorem dMo_isStatement_45 : decode cMo_isStatement 45 = .ok (.aload_n 0, 1) := by decide +kernel
theorem dMo_isStatement_46 : decode cMo_isStatement 46 = .ok (.getfield 17, 3) := by decide +kernel
theorem dMo_isStatement_49 : decode cMo_isStatement 49 = .ok (.iload_n 1, 1) := by decide +kernel
theorem dMo_isStatement_50 : decode cMo_isStatement 50 = .ok (.iaload, 1) := by decide +kernel
theorem dMo_isStatement_51 : decode cMo_isStatement 51 = .ok (.bipush 16, 2) := by decide +kernel
theorem dMo_isStatement_53 : decode cMo_isStatement 53 = .ok (.if_icmp .le 7, 3) := by decide +kernel
theorem dMo_isStatement_56 : decode cMo_isStatement 56 = .ok (.iconst 1, 1) := by decide +kernel
theorem dMo_isStatement_57 : decode cMo_isStatement 57 = .ok (.goto 4, 3) := by decide +kernel
theorem dMo_isStatement_60 : decode cMo_isStatement 60 = .ok (.iconst 0, 1) := by decide +kernel
theorem dMo_isStatement_61 : decode cMo_isStatement 61 = .ok (.ireturn, 1) := by decide +kernel
abbrev cMo_isCell : ByteArray := prog_11_method_9_code
def yMo_isCell : MethodName := ⟨RMo, "isCell", "(I)Z"⟩
def wsMo_isCell : List Cond := .code yMo_isCell cMo_isCell 2 (some .boolean) :: TB
theorem dMo_isCell_0 : decode cMo_isCell 0 = .ok (.iload_n 1, 1) := by decide +kernel
theorem dMo_isCell_1 : decode cMo_isCell 1 = .ok (.ifCond .lt 15, 3) := by decide +kernel
theorem dMo_isCell_4 : decode cMo_isCell 4 = .ok (.iload_n 1, 1) := by decide +kernel
theorem dMo_isCell_5 : decode cMo_isCell 5 = .ok (.aload_n 0, 1) := by decide +kernel
theorem dMo_isCell_6 : decode cMo_isCell 6 = .ok (.getfield 69, 3) := by decide +kernel
theorem dMo_isCell_9 : decode cMo_isCell 9 = .ok (.if_icmp .ge 7, 3) := by decide +kernel
theorem dMo_isCell_12 : decode cMo_isCell 12 = .ok (.iconst 1, 1) := by decide +kernel
theorem dMo_isCell_13 : decode cMo_isCell 13 = .ok (.goto 4, 3) := by decide +kernel
theorem dMo_isCell_16 : decode cMo_isCell 16 = .ok (.iconst 0, 1) := by decide +kernel
theorem dMo_isCell_17 : decode cMo_isCell 17 = .ok (.ireturn, 1) := by decide +kernel
abbrev cMo_needs : ByteArray := prog_11_method_10_code
def yMo_needs : MethodName := ⟨RMo, "needs", "(III)Z"⟩
def wsMo_needs : List Cond := .code yMo_needs cMo_needs 4 (some .boolean) :: TB
theorem dMo_needs_0 : decode cMo_needs 0 = .ok (.iload_n 1, 1) := by decide +kernel
theorem dMo_needs_1 : decode cMo_needs 1 = .ok (.tableswitch 371 1 25 #[115, 121, 121, 121, 121, 121, 121, 121, 143, 165, 187, 209, 165, 233, 257, 287, 371, 323, 371, 371, 371, 329, 335, 335, 341], 115) := by decide +kernel
theorem dMo_needs_116 : decode cMo_needs 116 = .ok (.aload_n 0, 1) := by decide +kernel
theorem dMo_needs_117 : decode cMo_needs 117 = .ok (.iload_n 2, 1) := by decide +kernel
theorem dMo_needs_118 : decode cMo_needs 118 = .ok (.invokevirtual 79, 3) := by decide +kernel
theorem dMo_needs_121 : decode cMo_needs 121 = .ok (.ireturn, 1) := by decide +kernel
theorem dMo_needs_122 : decode cMo_needs 122 = .ok (.aload_n 0, 1) := by decide +kernel
theorem dMo_needs_123 : decode cMo_needs 123 = .ok (.iload_n 2, 1) := by decide +kernel
theorem dMo_needs_124 : decode cMo_needs 124 = .ok (.invokevirtual 83, 3) := by decide +kernel
theorem dMo_needs_127 : decode cMo_needs 127 = .ok (.ifCond .eq 15, 3) := by decide +kernel
theorem dMo_needs_130 : decode cMo_needs 130 = .ok (.aload_n 0, 1) := by decide +kernel
theorem dMo_needs_131 : decode cMo_needs 131 = .ok (.iload_n 3, 1) := by decide +kernel
theorem dMo_needs_132 : decode cMo_needs 132 = .ok (.invokevirtual 83, 3) := by decide +kernel
theorem dMo_needs_135 : decode cMo_needs 135 = .ok (.ifCond .eq 7, 3) := by decide +kernel
theorem dMo_needs_138 : decode cMo_needs 138 = .ok (.iconst 1, 1) := by decide +kernel
theorem dMo_needs_139 : decode cMo_needs 139 = .ok (.goto 4, 3) := by decide +kernel
theorem dMo_needs_142 : decode cMo_needs 142 = .ok (.iconst 0, 1) := by decide +kernel
theorem dMo_needs_143 : decode cMo_needs 143 = .ok (.ireturn, 1) := by decide +kernel
theorem dMo_needs_144 : decode cMo_needs 144 = .ok (.aload_n 0, 1) := by decide +kernel
theorem dMo_needs_145 : decode cMo_needs 145 = .ok (.iload_n 2, 1) := by decide +kernel
theorem dMo_needs_146 : decode cMo_needs 146 = .ok (.invokevirtual 79, 3) := by decide +kernel
theorem dMo_needs_149 : decode cMo_needs 149 = .ok (.ifCond .eq 15, 3) := by decide +kernel
theorem dMo_needs_152 : decode cMo_needs 152 = .ok (.aload_n 0, 1) := by decide +kernel
theorem dMo_needs_153 : decode cMo_needs 153 = .ok (.iload_n 3, 1) := by decide +kernel
theorem dMo_needs_154 : decode cMo_needs 154 = .ok (.invokevirtual 83, 3) := by decide +kernel
theorem dMo_needs_157 : decode cMo_needs 157 = .ok (.ifCond .eq 7, 3) := by decide +kernel
theorem dMo_needs_160 : decode cMo_needs 160 = .ok (.iconst 1, 1) := by decide +kernel
theorem dMo_needs_161 : decode cMo_needs 161 = .ok (.goto 4, 3) := by decide +kernel
theorem dMo_needs_164 : decode cMo_needs 164 = .ok (.iconst 0, 1) := by decide +kernel
theorem dMo_needs_165 : decode cMo_needs 165 = .ok (.ireturn, 1) := by decide +kernel
theorem dMo_needs_166 : decode cMo_needs 166 = .ok (.aload_n 0, 1) := by decide +kernel
theorem dMo_needs_167 : decode cMo_needs 167 = .ok (.iload_n 2, 1) := by decide +kernel
theorem dMo_needs_168 : decode cMo_needs 168 = .ok (.invokevirtual 86, 3) := by decide +kernel
theorem dMo_needs_171 : decode cMo_needs 171 = .ok (.ifCond .eq 15, 3) := by decide +kernel
theorem dMo_needs_174 : decode cMo_needs 174 = .ok (.aload_n 0, 1) := by decide +kernel
theorem dMo_needs_175 : decode cMo_needs 175 = .ok (.iload_n 3, 1) := by decide +kernel
theorem dMo_needs_176 : decode cMo_needs 176 = .ok (.invokevirtual 86, 3) := by decide +kernel
theorem dMo_needs_179 : decode cMo_needs 179 = .ok (.ifCond .eq 7, 3) := by decide +kernel
theorem dMo_needs_182 : decode cMo_needs 182 = .ok (.iconst 1, 1) := by decide +kernel
theorem dMo_needs_183 : decode cMo_needs 183 = .ok (.goto 4, 3) := by decide +kernel
theorem dMo_needs_186 : decode cMo_needs 186 = .ok (.iconst 0, 1) := by decide +kernel
theorem dMo_needs_187 : decode cMo_needs 187 = .ok (.ireturn, 1) := by decide +kernel
theorem dMo_needs_188 : decode cMo_needs 188 = .ok (.aload_n 0, 1) := by decide +kernel
theorem dMo_needs_189 : decode cMo_needs 189 = .ok (.iload_n 2, 1) := by decide +kernel
theorem dMo_needs_190 : decode cMo_needs 190 = .ok (.invokevirtual 83, 3) := by decide +kernel
theorem dMo_needs_193 : decode cMo_needs 193 = .ok (.ifCond .eq 15, 3) := by decide +kernel
theorem dMo_needs_196 : decode cMo_needs 196 = .ok (.aload_n 0, 1) := by decide +kernel
theorem dMo_needs_197 : decode cMo_needs 197 = .ok (.iload_n 3, 1) := by decide +kernel
theorem dMo_needs_198 : decode cMo_needs 198 = .ok (.invokevirtual 86, 3) := by decide +kernel
theorem dMo_needs_201 : decode cMo_needs 201 = .ok (.ifCond .eq 7, 3) := by decide +kernel
theorem dMo_needs_204 : decode cMo_needs 204 = .ok (.iconst 1, 1) := by decide +kernel
theorem dMo_needs_205 : decode cMo_needs 205 = .ok (.goto 4, 3) := by decide +kernel
theorem dMo_needs_208 : decode cMo_needs 208 = .ok (.iconst 0, 1) := by decide +kernel
theorem dMo_needs_209 : decode cMo_needs 209 = .ok (.ireturn, 1) := by decide +kernel
theorem dMo_needs_210 : decode cMo_needs 210 = .ok (.aload_n 0, 1) := by decide +kernel
theorem dMo_needs_211 : decode cMo_needs 211 = .ok (.iload_n 2, 1) := by decide +kernel
theorem dMo_needs_212 : decode cMo_needs 212 = .ok (.invokevirtual 83, 3) := by decide +kernel
theorem dMo_needs_215 : decode cMo_needs 215 = .ok (.ifCond .eq 17, 3) := by decide +kernel
theorem dMo_needs_218 : decode cMo_needs 218 = .ok (.aload_n 0, 1) := by decide +kernel
theorem dMo_needs_219 : decode cMo_needs 219 = .ok (.iload_n 3, 1) := by decide +kernel
theorem dMo_needs_220 : decode cMo_needs 220 = .ok (.bipush 13, 2) := by decide +kernel
theorem dMo_needs_222 : decode cMo_needs 222 = .ok (.invokevirtual 89, 3) := by decide +kernel
theorem dMo_needs_225 : decode cMo_needs 225 = .ok (.ifCond .eq 7, 3) := by decide +kernel
theorem dMo_needs_228 : decode cMo_needs 228 = .ok (.iconst 1, 1) := by decide +kernel
theorem dMo_needs_229 : decode cMo_needs 229 = .ok (.goto 4, 3) := by decide +kernel
theorem dMo_needs_232 : decode cMo_needs 232 = .ok (.iconst 0, 1) := by decide +kernel
theorem dMo_needs_233 : decode cMo_needs 233 = .ok (.ireturn, 1) := by decide +kernel
theorem dMo_needs_234 : decode cMo_needs 234 = .ok (.aload_n 0, 1) := by decide +kernel
theorem dMo_needs_235 : decode cMo_needs 235 = .ok (.iload_n 2, 1) := by decide +kernel
theorem dMo_needs_236 : decode cMo_needs 236 = .ok (.invokevirtual 83, 3) := by decide +kernel
theorem dMo_needs_239 : decode cMo_needs 239 = .ok (.ifCond .eq 17, 3) := by decide +kernel
theorem dMo_needs_242 : decode cMo_needs 242 = .ok (.aload_n 0, 1) := by decide +kernel
theorem dMo_needs_243 : decode cMo_needs 243 = .ok (.iload_n 3, 1) := by decide +kernel
theorem dMo_needs_244 : decode cMo_needs 244 = .ok (.bipush 15, 2) := by decide +kernel
theorem dMo_needs_246 : decode cMo_needs 246 = .ok (.invokevirtual 89, 3) := by decide +kernel
theorem dMo_needs_249 : decode cMo_needs 249 = .ok (.ifCond .eq 7, 3) := by decide +kernel
theorem dMo_needs_252 : decode cMo_needs 252 = .ok (.iconst 1, 1) := by decide +kernel
theorem dMo_needs_253 : decode cMo_needs 253 = .ok (.goto 4, 3) := by decide +kernel
theorem dMo_needs_256 : decode cMo_needs 256 = .ok (.iconst 0, 1) := by decide +kernel
theorem dMo_needs_257 : decode cMo_needs 257 = .ok (.ireturn, 1) := by decide +kernel
theorem dMo_needs_258 : decode cMo_needs 258 = .ok (.aload_n 0, 1) := by decide +kernel
theorem dMo_needs_259 : decode cMo_needs 259 = .ok (.iload_n 2, 1) := by decide +kernel
theorem dMo_needs_260 : decode cMo_needs 260 = .ok (.bipush 16, 2) := by decide +kernel
theorem dMo_needs_262 : decode cMo_needs 262 = .ok (.invokevirtual 89, 3) := by decide +kernel
theorem dMo_needs_265 : decode cMo_needs 265 = .ok (.ifCond .eq 21, 3) := by decide +kernel
theorem dMo_needs_268 : decode cMo_needs 268 = .ok (.iload_n 3, 1) := by decide +kernel
theorem dMo_needs_269 : decode cMo_needs 269 = .ok (.ifCond .eq 13, 3) := by decide +kernel
theorem dMo_needs_272 : decode cMo_needs 272 = .ok (.aload_n 0, 1) := by decide +kernel
theorem dMo_needs_273 : decode cMo_needs 273 = .ok (.iload_n 3, 1) := by decide +kernel
theorem dMo_needs_274 : decode cMo_needs 274 = .ok (.bipush 15, 2) := by decide +kernel
theorem dMo_needs_276 : decode cMo_needs 276 = .ok (.invokevirtual 89, 3) := by decide +kernel
theorem dMo_needs_279 : decode cMo_needs 279 = .ok (.ifCond .eq 7, 3) := by decide +kernel
theorem dMo_needs_282 : decode cMo_needs 282 = .ok (.iconst 1, 1) := by decide +kernel
theorem dMo_needs_283 : decode cMo_needs 283 = .ok (.goto 4, 3) := by decide +kernel
theorem dMo_needs_286 : decode cMo_needs 286 = .ok (.iconst 0, 1) := by decide +kernel
theorem dMo_needs_287 : decode cMo_needs 287 = .ok (.ireturn, 1) := by decide +kernel
theorem dMo_needs_288 : decode cMo_needs 288 = .ok (.iload_n 2, 1) := by decide +kernel
theorem dMo_needs_289 : decode cMo_needs 289 = .ok (.ifCond .eq 21, 3) := by decide +kernel
theorem dMo_needs_292 : decode cMo_needs 292 = .ok (.aload_n 0, 1) := by decide +kernel
theorem dMo_needs_293 : decode cMo_needs 293 = .ok (.iload_n 2, 1) := by decide +kernel
theorem dMo_needs_294 : decode cMo_needs 294 = .ok (.invokevirtual 83, 3) := by decide +kernel
theorem dMo_needs_297 : decode cMo_needs 297 = .ok (.ifCond .ne 13, 3) := by decide +kernel
theorem dMo_needs_300 : decode cMo_needs 300 = .ok (.aload_n 0, 1) := by decide +kernel
theorem dMo_needs_301 : decode cMo_needs 301 = .ok (.iload_n 2, 1) := by decide +kernel
theorem dMo_needs_302 : decode cMo_needs 302 = .ok (.bipush 8, 2) := by decide +kernel
theorem dMo_needs_304 : decode cMo_needs 304 = .ok (.invokevirtual 89, 3) := by decide +kernel
theorem dMo_needs_307 : decode cMo_needs 307 = .ok (.ifCond .eq 15, 3) := by decide +kernel
theorem dMo_needs_310 : decode cMo_needs 310 = .ok (.aload_n 0, 1) := by decide +kernel
theorem dMo_needs_311 : decode cMo_needs 311 = .ok (.iload_n 3, 1) := by decide +kernel
theorem dMo_needs_312 : decode cMo_needs 312 = .ok (.invokevirtual 86, 3) := by decide +kernel
theorem dMo_needs_315 : decode cMo_needs 315 = .ok (.ifCond .eq 7, 3) := by decide +kernel
theorem dMo_needs_318 : decode cMo_needs 318 = .ok (.iconst 1, 1) := by decide +kernel
theorem dMo_needs_319 : decode cMo_needs 319 = .ok (.goto 4, 3) := by decide +kernel
theorem dMo_needs_322 : decode cMo_needs 322 = .ok (.iconst 0, 1) := by decide +kernel
theorem dMo_needs_323 : decode cMo_needs 323 = .ok (.ireturn, 1) := by decide +kernel
theorem dMo_needs_324 : decode cMo_needs 324 = .ok (.aload_n 0, 1) := by decide +kernel
theorem dMo_needs_325 : decode cMo_needs 325 = .ok (.iload_n 3, 1) := by decide +kernel
theorem dMo_needs_326 : decode cMo_needs 326 = .ok (.invokevirtual 83, 3) := by decide +kernel
theorem dMo_needs_329 : decode cMo_needs 329 = .ok (.ireturn, 1) := by decide +kernel
theorem dMo_needs_330 : decode cMo_needs 330 = .ok (.aload_n 0, 1) := by decide +kernel
theorem dMo_needs_331 : decode cMo_needs 331 = .ok (.iload_n 2, 1) := by decide +kernel
theorem dMo_needs_332 : decode cMo_needs 332 = .ok (.invokevirtual 86, 3) := by decide +kernel
theorem dMo_needs_335 : decode cMo_needs 335 = .ok (.ireturn, 1) := by decide +kernel
theorem dMo_needs_336 : decode cMo_needs 336 = .ok (.aload_n 0, 1) := by decide +kernel
theorem dMo_needs_337 : decode cMo_needs 337 = .ok (.iload_n 2, 1) := by decide +kernel
theorem dMo_needs_338 : decode cMo_needs 338 = .ok (.invokevirtual 83, 3) := by decide +kernel
theorem dMo_needs_341 : decode cMo_needs 341 = .ok (.ireturn, 1) := by decide +kernel
theorem dMo_needs_342 : decode cMo_needs 342 = .ok (.iload_n 2, 1) := by decide +kernel
theorem dMo_needs_343 : decode cMo_needs 343 = .ok (.ifCond .eq 11, 3) := by decide +kernel
theorem dMo_needs_346 : decode cMo_needs 346 = .ok (.aload_n 0, 1) := by decide +kernel
theorem dMo_needs_347 : decode cMo_needs 347 = .ok (.iload_n 2, 1) := by decide +kernel
theorem dMo_needs_348 : decode cMo_needs 348 = .ok (.invokevirtual 86, 3) := by decide +kernel
theorem dMo_needs_351 : decode cMo_needs 351 = .ok (.ifCond .eq 19, 3) := by decide +kernel
theorem dMo_needs_354 : decode cMo_needs 354 = .ok (.iload_n 3, 1) := by decide +kernel
theorem dMo_needs_355 : decode cMo_needs 355 = .ok (.ifCond .eq 11, 3) := by decide +kernel
theorem dMo_needs_358 : decode cMo_needs 358 = .ok (.aload_n 0, 1) := by decide +kernel
theorem dMo_needs_359 : decode cMo_needs 359 = .ok (.iload_n 3, 1) := by decide +kernel
theorem dMo_needs_360 : decode cMo_needs 360 = .ok (.invokevirtual 86, 3) := by decide +kernel
theorem dMo_needs_363 : decode cMo_needs 363 = .ok (.ifCond .eq 7, 3) := by decide +kernel
theorem dMo_needs_366 : decode cMo_needs 366 = .ok (.iconst 1, 1) := by decide +kernel
theorem dMo_needs_367 : decode cMo_needs 367 = .ok (.goto 4, 3) := by decide +kernel
theorem dMo_needs_370 : decode cMo_needs 370 = .ok (.iconst 0, 1) := by decide +kernel
theorem dMo_needs_371 : decode cMo_needs 371 = .ok (.ireturn, 1) := by decide +kernel
theorem dMo_needs_372 : decode cMo_needs 372 = .ok (.iconst 1, 1) := by decide +kernel
theorem dMo_needs_373 : decode cMo_needs 373 = .ok (.ireturn, 1) := by decide +kernel
abbrev cMo_node : ByteArray := prog_11_method_11_code
def yMo_node : MethodName := ⟨RMo, "node", "(III)I"⟩
def wsMo_node : List Cond := .code yMo_node cMo_node 5 (some .int) :: TB
theorem dMo_node_0 : decode cMo_node 0 = .ok (.aload_n 0, 1) := by decide +kernel
theorem dMo_node_1 : decode cMo_node 1 = .ok (.iconst 0, 1) := by decide +kernel
theorem dMo_node_2 : decode cMo_node 2 = .ok (.putfield 63, 3) := by decide +kernel
theorem dMo_node_5 : decode cMo_node 5 = .ok (.iload_n 1, 1) := by decide +kernel
theorem dMo_node_6 : decode cMo_node 6 = .ok (.ifCond .lt 9, 3) := by decide +kernel
theorem dMo_node_9 : decode cMo_node 9 = .ok (.iload_n 1, 1) := by decide +kernel
theorem dMo_node_10 : decode cMo_node 10 = .ok (.bipush 25, 2) := by decide +kernel
theorem dMo_node_12 : decode cMo_node 12 = .ok (.if_icmp .le 6, 3) := by decide +kernel
theorem dMo_node_15 : decode cMo_node 15 = .ok (.bipush (-4), 2) := by decide +kernel
theorem dMo_node_17 : decode cMo_node 17 = .ok (.ireturn, 1) := by decide +kernel
theorem dMo_node_18 : decode cMo_node 18 = .ok (.aload_n 0, 1) := by decide +kernel
theorem dMo_node_19 : decode cMo_node 19 = .ok (.iload_n 1, 1) := by decide +kernel
theorem dMo_node_20 : decode cMo_node 20 = .ok (.iload_n 2, 1) := by decide +kernel
theorem dMo_node_21 : decode cMo_node 21 = .ok (.iload_n 3, 1) := by decide +kernel
theorem dMo_node_22 : decode cMo_node 22 = .ok (.invokevirtual 93, 3) := by decide +kernel
theorem dMo_node_25 : decode cMo_node 25 = .ok (.ifCond .ne 6, 3) := by decide +kernel
theorem dMo_node_28 : decode cMo_node 28 = .ok (.bipush (-2), 2) := by decide +kernel
theorem dMo_node_30 : decode cMo_node 30 = .ok (.ireturn, 1) := by decide +kernel
theorem dMo_node_31 : decode cMo_node 31 = .ok (.iload_n 1, 1) := by decide +kernel
theorem dMo_node_32 : decode cMo_node 32 = .ok (.bipush 17, 2) := by decide +kernel
theorem dMo_node_34 : decode cMo_node 34 = .ok (.if_icmp .eq 9, 3) := by decide +kernel
theorem dMo_node_37 : decode cMo_node 37 = .ok (.iload_n 1, 1) := by decide +kernel
theorem dMo_node_38 : decode cMo_node 38 = .ok (.bipush 18, 2) := by decide +kernel
theorem dMo_node_40 : decode cMo_node 40 = .ok (.if_icmp .ne 14, 3) := by decide +kernel
theorem dMo_node_43 : decode cMo_node 43 = .ok (.iload_n 2, 1) := by decide +kernel
theorem dMo_node_44 : decode cMo_node 44 = .ok (.iconst 1, 1) := by decide +kernel
theorem dMo_node_45 : decode cMo_node 45 = .ok (.if_icmp .lt 24, 3) := by decide +kernel
theorem dMo_node_48 : decode cMo_node 48 = .ok (.iload_n 2, 1) := by decide +kernel
theorem dMo_node_49 : decode cMo_node 49 = .ok (.bipush 30, 2) := by decide +kernel
theorem dMo_node_51 : decode cMo_node 51 = .ok (.if_icmp .gt 18, 3) := by decide +kernel
theorem dMo_node_54 : decode cMo_node 54 = .ok (.iload_n 1, 1) := by decide +kernel
theorem dMo_node_55 : decode cMo_node 55 = .ok (.bipush 19, 2) := by decide +kernel
theorem dMo_node_57 : decode cMo_node 57 = .ok (.if_icmp .ne 15, 3) := by decide +kernel
theorem dMo_node_60 : decode cMo_node 60 = .ok (.iload_n 2, 1) := by decide +kernel
theorem dMo_node_61 : decode cMo_node 61 = .ok (.ifCond .lt 8, 3) := by decide +kernel
theorem dMo_node_64 : decode cMo_node 64 = .ok (.iload_n 2, 1) := by decide +kernel
theorem dMo_node_65 : decode cMo_node 65 = .ok (.iconst 1, 1) := by decide +kernel
theorem dMo_node_66 : decode cMo_node 66 = .ok (.if_icmp .le 6, 3) := by decide +kernel
theorem dMo_node_69 : decode cMo_node 69 = .ok (.bipush (-4), 2) := by decide +kernel
theorem dMo_node_71 : decode cMo_node 71 = .ok (.ireturn, 1) := by decide +kernel
theorem dMo_node_72 : decode cMo_node 72 = .ok (.iload_n 1, 1) := by decide +kernel
theorem dMo_node_73 : decode cMo_node 73 = .ok (.iconst 2, 1) := by decide +kernel
theorem dMo_node_74 : decode cMo_node 74 = .ok (.if_icmp .ge 7, 3) := by decide +kernel
theorem dMo_node_77 : decode cMo_node 77 = .ok (.iconst 1, 1) := by decide +kernel
theorem dMo_node_78 : decode cMo_node 78 = .ok (.goto 28, 3) := by decide +kernel
theorem dMo_node_81 : decode cMo_node 81 = .ok (.iload_n 1, 1) := by decide +kernel
theorem dMo_node_82 : decode cMo_node 82 = .ok (.bipush 8, 2) := by decide +kernel
theorem dMo_node_84 : decode cMo_node 84 = .ok (.if_icmp .ge 21, 3) := by decide +kernel
theorem dMo_node_87 : decode cMo_node 87 = .ok (.iconst 1, 1) := by decide +kernel
theorem dMo_node_88 : decode cMo_node 88 = .ok (.aload_n 0, 1) := by decide +kernel
theorem dMo_node_89 : decode cMo_node 89 = .ok (.getfield 26, 3) := by decide +kernel
theorem dMo_node_92 : decode cMo_node 92 = .ok (.iload_n 2, 1) := by decide +kernel
theorem dMo_node_93 : decode cMo_node 93 = .ok (.iaload, 1) := by decide +kernel
theorem dMo_node_94 : decode cMo_node 94 = .ok (.iadd, 1) := by decide +kernel
theorem dMo_node_95 : decode cMo_node 95 = .ok (.aload_n 0, 1) := by decide +kernel
theorem dMo_node_96 : decode cMo_node 96 = .ok (.getfield 26, 3) := by decide +kernel
theorem dMo_node_99 : decode cMo_node 99 = .ok (.iload_n 3, 1) := by decide +kernel
theorem dMo_node_100 : decode cMo_node 100 = .ok (.iaload, 1) := by decide +kernel
theorem dMo_node_101 : decode cMo_node 101 = .ok (.iadd, 1) := by decide +kernel
theorem dMo_node_102 : decode cMo_node 102 = .ok (.goto 4, 3) := by decide +kernel
theorem dMo_node_105 : decode cMo_node 105 = .ok (.iconst 0, 1) := by decide +kernel
theorem dMo_node_106 : decode cMo_node 106 = .ok (.istore 4, 2) := by decide +kernel
theorem dMo_node_108 : decode cMo_node 108 = .ok (.iload 4, 2) := by decide +kernel
theorem dMo_node_110 : decode cMo_node 110 = .ok (.bipush 100, 2) := by decide +kernel
theorem dMo_node_112 : decode cMo_node 112 = .ok (.if_icmp .le 6, 3) := by decide +kernel
theorem dMo_node_115 : decode cMo_node 115 = .ok (.bipush (-7), 2) := by decide +kernel
theorem dMo_node_117 : decode cMo_node 117 = .ok (.ireturn, 1) := by decide +kernel
theorem dMo_node_118 : decode cMo_node 118 = .ok (.aload_n 0, 1) := by decide +kernel
theorem dMo_node_119 : decode cMo_node 119 = .ok (.getfield 76, 3) := by decide +kernel
theorem dMo_node_122 : decode cMo_node 122 = .ok (.sipush 200, 3) := by decide +kernel
theorem dMo_node_125 : decode cMo_node 125 = .ok (.if_icmp .ne 5, 3) := by decide +kernel
theorem dMo_node_128 : decode cMo_node 128 = .ok (.iconst (-1), 1) := by decide +kernel
theorem dMo_node_129 : decode cMo_node 129 = .ok (.ireturn, 1) := by decide +kernel
theorem dMo_node_130 : decode cMo_node 130 = .ok (.aload_n 0, 1) := by decide +kernel
theorem dMo_node_131 : decode cMo_node 131 = .ok (.dup, 1) := by decide +kernel
theorem dMo_node_132 : decode cMo_node 132 = .ok (.getfield 76, 3) := by decide +kernel
theorem dMo_node_135 : decode cMo_node 135 = .ok (.iconst 1, 1) := by decide +kernel
theorem dMo_node_136 : decode cMo_node 136 = .ok (.iadd, 1) := by decide +kernel
theorem dMo_node_137 : decode cMo_node 137 = .ok (.putfield 76, 3) := by decide +kernel
theorem dMo_node_140 : decode cMo_node 140 = .ok (.aload_n 0, 1) := by decide +kernel
theorem dMo_node_141 : decode cMo_node 141 = .ok (.getfield 17, 3) := by decide +kernel
theorem dMo_node_144 : decode cMo_node 144 = .ok (.aload_n 0, 1) := by decide +kernel
theorem dMo_node_145 : decode cMo_node 145 = .ok (.getfield 76, 3) := by decide +kernel
theorem dMo_node_148 : decode cMo_node 148 = .ok (.iload_n 1, 1) := by decide +kernel
theorem dMo_node_149 : decode cMo_node 149 = .ok (.iastore, 1) := by decide +kernel
theorem dMo_node_150 : decode cMo_node 150 = .ok (.aload_n 0, 1) := by decide +kernel
theorem dMo_node_151 : decode cMo_node 151 = .ok (.getfield 20, 3) := by decide +kernel
theorem dMo_node_154 : decode cMo_node 154 = .ok (.aload_n 0, 1) := by decide +kernel
theorem dMo_node_155 : decode cMo_node 155 = .ok (.getfield 76, 3) := by decide +kernel
theorem dMo_node_158 : decode cMo_node 158 = .ok (.iload_n 2, 1) := by decide +kernel
theorem dMo_node_159 : decode cMo_node 159 = .ok (.iastore, 1) := by decide +kernel
theorem dMo_node_160 : decode cMo_node 160 = .ok (.aload_n 0, 1) := by decide +kernel
theorem dMo_node_161 : decode cMo_node 161 = .ok (.getfield 23, 3) := by decide +kernel
theorem dMo_node_164 : decode cMo_node 164 = .ok (.aload_n 0, 1) := by decide +kernel
theorem dMo_node_165 : decode cMo_node 165 = .ok (.getfield 76, 3) := by decide +kernel
theorem dMo_node_168 : decode cMo_node 168 = .ok (.iload_n 3, 1) := by decide +kernel
theorem dMo_node_169 : decode cMo_node 169 = .ok (.iastore, 1) := by decide +kernel
theorem dMo_node_170 : decode cMo_node 170 = .ok (.aload_n 0, 1) := by decide +kernel
theorem dMo_node_171 : decode cMo_node 171 = .ok (.getfield 26, 3) := by decide +kernel
theorem dMo_node_174 : decode cMo_node 174 = .ok (.aload_n 0, 1) := by decide +kernel
theorem dMo_node_175 : decode cMo_node 175 = .ok (.getfield 76, 3) := by decide +kernel
theorem dMo_node_178 : decode cMo_node 178 = .ok (.iload 4, 2) := by decide +kernel
theorem dMo_node_180 : decode cMo_node 180 = .ok (.iastore, 1) := by decide +kernel
theorem dMo_node_181 : decode cMo_node 181 = .ok (.aload_n 0, 1) := by decide +kernel
theorem dMo_node_182 : decode cMo_node 182 = .ok (.getfield 29, 3) := by decide +kernel
theorem dMo_node_185 : decode cMo_node 185 = .ok (.aload_n 0, 1) := by decide +kernel
theorem dMo_node_186 : decode cMo_node 186 = .ok (.getfield 76, 3) := by decide +kernel
theorem dMo_node_189 : decode cMo_node 189 = .ok (.iconst 0, 1) := by decide +kernel
theorem dMo_node_190 : decode cMo_node 190 = .ok (.iastore, 1) := by decide +kernel
theorem dMo_node_191 : decode cMo_node 191 = .ok (.aload_n 0, 1) := by decide +kernel
theorem dMo_node_192 : decode cMo_node 192 = .ok (.getfield 76, 3) := by decide +kernel
theorem dMo_node_195 : decode cMo_node 195 = .ok (.ireturn, 1) := by decide +kernel
abbrev cMo_paragraph : ByteArray := prog_11_method_12_code
def yMo_paragraph : MethodName := ⟨RMo, "paragraph", "(II)I"⟩
def wsMo_paragraph : List Cond := .code yMo_paragraph cMo_paragraph 3 (some .int) :: TB
theorem dMo_paragraph_0 : decode cMo_paragraph 0 = .ok (.aload_n 0, 1) := by decide +kernel
theorem dMo_paragraph_1 : decode cMo_paragraph 1 = .ok (.iconst 0, 1) := by decide +kernel
theorem dMo_paragraph_2 : decode cMo_paragraph 2 = .ok (.putfield 63, 3) := by decide +kernel
theorem dMo_paragraph_5 : decode cMo_paragraph 5 = .ok (.iload_n 1, 1) := by decide +kernel
theorem dMo_paragraph_6 : decode cMo_paragraph 6 = .ok (.ifCond .eq 14, 3) := by decide +kernel
theorem dMo_paragraph_9 : decode cMo_paragraph 9 = .ok (.aload_n 0, 1) := by decide +kernel
theorem dMo_paragraph_10 : decode cMo_paragraph 10 = .ok (.iload_n 1, 1) := by decide +kernel
theorem dMo_paragraph_11 : decode cMo_paragraph 11 = .ok (.invokevirtual 86, 3) := by decide +kernel
theorem dMo_paragraph_14 : decode cMo_paragraph 14 = .ok (.ifCond .ne 6, 3) := by decide +kernel
theorem dMo_paragraph_17 : decode cMo_paragraph 17 = .ok (.bipush (-2), 2) := by decide +kernel
theorem dMo_paragraph_19 : decode cMo_paragraph 19 = .ok (.ireturn, 1) := by decide +kernel
theorem dMo_paragraph_20 : decode cMo_paragraph 20 = .ok (.iload_n 2, 1) := by decide +kernel
theorem dMo_paragraph_21 : decode cMo_paragraph 21 = .ok (.ifCond .lt 9, 3) := by decide +kernel
theorem dMo_paragraph_24 : decode cMo_paragraph 24 = .ok (.iload_n 2, 1) := by decide +kernel
theorem dMo_paragraph_25 : decode cMo_paragraph 25 = .ok (.bipush 9, 2) := by decide +kernel
theorem dMo_paragraph_27 : decode cMo_paragraph 27 = .ok (.if_icmp .le 6, 3) := by decide +kernel
theorem dMo_paragraph_30 : decode cMo_paragraph 30 = .ok (.bipush (-4), 2) := by decide +kernel
theorem dMo_paragraph_32 : decode cMo_paragraph 32 = .ok (.ireturn, 1) := by decide +kernel
theorem dMo_paragraph_33 : decode cMo_paragraph 33 = .ok (.aload_n 0, 1) := by decide +kernel
theorem dMo_paragraph_34 : decode cMo_paragraph 34 = .ok (.getfield 97, 3) := by decide +kernel
theorem dMo_paragraph_37 : decode cMo_paragraph 37 = .ok (.bipush 30, 2) := by decide +kernel
theorem dMo_paragraph_39 : decode cMo_paragraph 39 = .ok (.if_icmp .ne 5, 3) := by decide +kernel
theorem dMo_paragraph_42 : decode cMo_paragraph 42 = .ok (.iconst (-1), 1) := by decide +kernel
theorem dMo_paragraph_43 : decode cMo_paragraph 43 = .ok (.ireturn, 1) := by decide +kernel
theorem dMo_paragraph_44 : decode cMo_paragraph 44 = .ok (.aload_n 0, 1) := by decide +kernel
theorem dMo_paragraph_45 : decode cMo_paragraph 45 = .ok (.dup, 1) := by decide +kernel
theorem dMo_paragraph_46 : decode cMo_paragraph 46 = .ok (.getfield 97, 3) := by decide +kernel
theorem dMo_paragraph_49 : decode cMo_paragraph 49 = .ok (.iconst 1, 1) := by decide +kernel
theorem dMo_paragraph_50 : decode cMo_paragraph 50 = .ok (.iadd, 1) := by decide +kernel
theorem dMo_paragraph_51 : decode cMo_paragraph 51 = .ok (.putfield 97, 3) := by decide +kernel
theorem dMo_paragraph_54 : decode cMo_paragraph 54 = .ok (.aload_n 0, 1) := by decide +kernel
theorem dMo_paragraph_55 : decode cMo_paragraph 55 = .ok (.getfield 35, 3) := by decide +kernel
theorem dMo_paragraph_58 : decode cMo_paragraph 58 = .ok (.aload_n 0, 1) := by decide +kernel
theorem dMo_paragraph_59 : decode cMo_paragraph 59 = .ok (.getfield 97, 3) := by decide +kernel
theorem dMo_paragraph_62 : decode cMo_paragraph 62 = .ok (.iload_n 1, 1) := by decide +kernel
theorem dMo_paragraph_63 : decode cMo_paragraph 63 = .ok (.iastore, 1) := by decide +kernel
theorem dMo_paragraph_64 : decode cMo_paragraph 64 = .ok (.aload_n 0, 1) := by decide +kernel
theorem dMo_paragraph_65 : decode cMo_paragraph 65 = .ok (.getfield 38, 3) := by decide +kernel
theorem dMo_paragraph_68 : decode cMo_paragraph 68 = .ok (.aload_n 0, 1) := by decide +kernel
theorem dMo_paragraph_69 : decode cMo_paragraph 69 = .ok (.getfield 97, 3) := by decide +kernel
theorem dMo_paragraph_72 : decode cMo_paragraph 72 = .ok (.iload_n 2, 1) := by decide +kernel
theorem dMo_paragraph_73 : decode cMo_paragraph 73 = .ok (.iastore, 1) := by decide +kernel
theorem dMo_paragraph_74 : decode cMo_paragraph 74 = .ok (.aload_n 0, 1) := by decide +kernel
theorem dMo_paragraph_75 : decode cMo_paragraph 75 = .ok (.getfield 97, 3) := by decide +kernel
theorem dMo_paragraph_78 : decode cMo_paragraph 78 = .ok (.ireturn, 1) := by decide +kernel
abbrev cMo_answer : ByteArray := prog_11_method_13_code
def yMo_answer : MethodName := ⟨RMo, "answer", "(II)I"⟩
def wsMo_answer : List Cond := .code yMo_answer cMo_answer 3 (some .int) :: TB
theorem dMo_answer_0 : decode cMo_answer 0 = .ok (.aload_n 0, 1) := by decide +kernel
theorem dMo_answer_1 : decode cMo_answer 1 = .ok (.iconst 0, 1) := by decide +kernel
theorem dMo_answer_2 : decode cMo_answer 2 = .ok (.putfield 63, 3) := by decide +kernel
theorem dMo_answer_5 : decode cMo_answer 5 = .ok (.aload_n 0, 1) := by decide +kernel
theorem dMo_answer_6 : decode cMo_answer 6 = .ok (.iload_n 1, 1) := by decide +kernel
theorem dMo_answer_7 : decode cMo_answer 7 = .ok (.bipush 25, 2) := by decide +kernel
theorem dMo_answer_9 : decode cMo_answer 9 = .ok (.invokevirtual 89, 3) := by decide +kernel
theorem dMo_answer_12 : decode cMo_answer 12 = .ok (.ifCond .ne 6, 3) := by decide +kernel
theorem dMo_answer_15 : decode cMo_answer 15 = .ok (.bipush (-2), 2) := by decide +kernel
theorem dMo_answer_17 : decode cMo_answer 17 = .ok (.ireturn, 1) := by decide +kernel
theorem dMo_answer_18 : decode cMo_answer 18 = .ok (.iload_n 2, 1) := by decide +kernel
theorem dMo_answer_19 : decode cMo_answer 19 = .ok (.ifCond .lt 9, 3) := by decide +kernel
theorem dMo_answer_22 : decode cMo_answer 22 = .ok (.iload_n 2, 1) := by decide +kernel
theorem dMo_answer_23 : decode cMo_answer 23 = .ok (.bipush 9, 2) := by decide +kernel
theorem dMo_answer_25 : decode cMo_answer 25 = .ok (.if_icmp .le 6, 3) := by decide +kernel
theorem dMo_answer_28 : decode cMo_answer 28 = .ok (.bipush (-4), 2) := by decide +kernel
theorem dMo_answer_30 : decode cMo_answer 30 = .ok (.ireturn, 1) := by decide +kernel
theorem dMo_answer_31 : decode cMo_answer 31 = .ok (.aload_n 0, 1) := by decide +kernel
theorem dMo_answer_32 : decode cMo_answer 32 = .ok (.getfield 29, 3) := by decide +kernel
theorem dMo_answer_35 : decode cMo_answer 35 = .ok (.iload_n 1, 1) := by decide +kernel
theorem dMo_answer_36 : decode cMo_answer 36 = .ok (.iaload, 1) := by decide +kernel
theorem dMo_answer_37 : decode cMo_answer 37 = .ok (.bipush 20, 2) := by decide +kernel
theorem dMo_answer_39 : decode cMo_answer 39 = .ok (.if_icmp .ne 5, 3) := by decide +kernel
theorem dMo_answer_42 : decode cMo_answer 42 = .ok (.iconst (-1), 1) := by decide +kernel
theorem dMo_answer_43 : decode cMo_answer 43 = .ok (.ireturn, 1) := by decide +kernel
theorem dMo_answer_44 : decode cMo_answer 44 = .ok (.aload_n 0, 1) := by decide +kernel
theorem dMo_answer_45 : decode cMo_answer 45 = .ok (.getfield 32, 3) := by decide +kernel
theorem dMo_answer_48 : decode cMo_answer 48 = .ok (.bipush 20, 2) := by decide +kernel
theorem dMo_answer_50 : decode cMo_answer 50 = .ok (.iload_n 1, 1) := by decide +kernel
theorem dMo_answer_51 : decode cMo_answer 51 = .ok (.imul, 1) := by decide +kernel
theorem dMo_answer_52 : decode cMo_answer 52 = .ok (.bipush 20, 2) := by decide +kernel
theorem dMo_answer_54 : decode cMo_answer 54 = .ok (.isub, 1) := by decide +kernel
theorem dMo_answer_55 : decode cMo_answer 55 = .ok (.aload_n 0, 1) := by decide +kernel
theorem dMo_answer_56 : decode cMo_answer 56 = .ok (.getfield 29, 3) := by decide +kernel
theorem dMo_answer_59 : decode cMo_answer 59 = .ok (.iload_n 1, 1) := by decide +kernel
theorem dMo_answer_60 : decode cMo_answer 60 = .ok (.iaload, 1) := by decide +kernel
theorem dMo_answer_61 : decode cMo_answer 61 = .ok (.iadd, 1) := by decide +kernel
theorem dMo_answer_62 : decode cMo_answer 62 = .ok (.iload_n 2, 1) := by decide +kernel
theorem dMo_answer_63 : decode cMo_answer 63 = .ok (.iastore, 1) := by decide +kernel
theorem dMo_answer_64 : decode cMo_answer 64 = .ok (.aload_n 0, 1) := by decide +kernel
theorem dMo_answer_65 : decode cMo_answer 65 = .ok (.getfield 29, 3) := by decide +kernel
theorem dMo_answer_68 : decode cMo_answer 68 = .ok (.iload_n 1, 1) := by decide +kernel
theorem dMo_answer_69 : decode cMo_answer 69 = .ok (.dup2, 1) := by decide +kernel
theorem dMo_answer_70 : decode cMo_answer 70 = .ok (.iaload, 1) := by decide +kernel
theorem dMo_answer_71 : decode cMo_answer 71 = .ok (.iconst 1, 1) := by decide +kernel
theorem dMo_answer_72 : decode cMo_answer 72 = .ok (.iadd, 1) := by decide +kernel
theorem dMo_answer_73 : decode cMo_answer 73 = .ok (.iastore, 1) := by decide +kernel
theorem dMo_answer_74 : decode cMo_answer 74 = .ok (.aload_n 0, 1) := by decide +kernel
theorem dMo_answer_75 : decode cMo_answer 75 = .ok (.dup, 1) := by decide +kernel
theorem dMo_answer_76 : decode cMo_answer 76 = .ok (.getfield 100, 3) := by decide +kernel
theorem dMo_answer_79 : decode cMo_answer 79 = .ok (.iconst 1, 1) := by decide +kernel
theorem dMo_answer_80 : decode cMo_answer 80 = .ok (.iadd, 1) := by decide +kernel
theorem dMo_answer_81 : decode cMo_answer 81 = .ok (.putfield 100, 3) := by decide +kernel
theorem dMo_answer_84 : decode cMo_answer 84 = .ok (.aload_n 0, 1) := by decide +kernel
theorem dMo_answer_85 : decode cMo_answer 85 = .ok (.getfield 29, 3) := by decide +kernel
theorem dMo_answer_88 : decode cMo_answer 88 = .ok (.iload_n 1, 1) := by decide +kernel
theorem dMo_answer_89 : decode cMo_answer 89 = .ok (.iaload, 1) := by decide +kernel
theorem dMo_answer_90 : decode cMo_answer 90 = .ok (.ireturn, 1) := by decide +kernel
abbrev cMo_value : ByteArray := prog_11_method_14_code
def yMo_value : MethodName := ⟨RMo, "value", "(I)J"⟩
def wsMo_value : List Cond := .code yMo_value cMo_value 5 (some .long) :: TB
theorem dMo_value_0 : decode cMo_value 0 = .ok (.iconst 1, 1) := by decide +kernel
theorem dMo_value_1 : decode cMo_value 1 = .ok (.istore_n 2, 1) := by decide +kernel
theorem dMo_value_2 : decode cMo_value 2 = .ok (.iconst 0, 1) := by decide +kernel
theorem dMo_value_3 : decode cMo_value 3 = .ok (.istore_n 3, 1) := by decide +kernel
theorem dMo_value_4 : decode cMo_value 4 = .ok (.aload_n 0, 1) := by decide +kernel
theorem dMo_value_5 : decode cMo_value 5 = .ok (.getfield 47, 3) := by decide +kernel
theorem dMo_value_8 : decode cMo_value 8 = .ok (.iconst 0, 1) := by decide +kernel
theorem dMo_value_9 : decode cMo_value 9 = .ok (.iload_n 1, 1) := by decide +kernel
theorem dMo_value_10 : decode cMo_value 10 = .ok (.iastore, 1) := by decide +kernel
theorem dMo_value_11 : decode cMo_value 11 = .ok (.iload_n 2, 1) := by decide +kernel
theorem dMo_value_12 : decode cMo_value 12 = .ok (.ifCond .le 176, 3) := by decide +kernel
theorem dMo_value_15 : decode cMo_value 15 = .ok (.iinc 2 (-1), 3) := by decide +kernel
theorem dMo_value_18 : decode cMo_value 18 = .ok (.aload_n 0, 1) := by decide +kernel
theorem dMo_value_19 : decode cMo_value 19 = .ok (.getfield 47, 3) := by decide +kernel
theorem dMo_value_22 : decode cMo_value 22 = .ok (.iload_n 2, 1) := by decide +kernel
theorem dMo_value_23 : decode cMo_value 23 = .ok (.iaload, 1) := by decide +kernel
theorem dMo_value_24 : decode cMo_value 24 = .ok (.istore 4, 2) := by decide +kernel
theorem dMo_value_26 : decode cMo_value 26 = .ok (.iload 4, 2) := by decide +kernel
theorem dMo_value_28 : decode cMo_value 28 = .ok (.ifCond .le 59, 3) := by decide +kernel
theorem dMo_value_31 : decode cMo_value 31 = .ok (.aload_n 0, 1) := by decide +kernel
theorem dMo_value_32 : decode cMo_value 32 = .ok (.getfield 17, 3) := by decide +kernel
theorem dMo_value_35 : decode cMo_value 35 = .ok (.iload 4, 2) := by decide +kernel
theorem dMo_value_37 : decode cMo_value 37 = .ok (.iaload, 1) := by decide +kernel
theorem dMo_value_38 : decode cMo_value 38 = .ok (.iconst 2, 1) := by decide +kernel
theorem dMo_value_39 : decode cMo_value 39 = .ok (.if_icmp .ge 48, 3) := by decide +kernel
theorem dMo_value_42 : decode cMo_value 42 = .ok (.aload_n 0, 1) := by decide +kernel
theorem dMo_value_43 : decode cMo_value 43 = .ok (.getfield 50, 3) := by decide +kernel
theorem dMo_value_46 : decode cMo_value 46 = .ok (.iload_n 3, 1) := by decide +kernel
theorem dMo_value_47 : decode cMo_value 47 = .ok (.aload_n 0, 1) := by decide +kernel
theorem dMo_value_48 : decode cMo_value 48 = .ok (.getfield 17, 3) := by decide +kernel
theorem dMo_value_51 : decode cMo_value 51 = .ok (.iload 4, 2) := by decide +kernel
theorem dMo_value_53 : decode cMo_value 53 = .ok (.iaload, 1) := by decide +kernel
theorem dMo_value_54 : decode cMo_value 54 = .ok (.ifCond .ne 14, 3) := by decide +kernel
theorem dMo_value_57 : decode cMo_value 57 = .ok (.aload_n 0, 1) := by decide +kernel
theorem dMo_value_58 : decode cMo_value 58 = .ok (.getfield 20, 3) := by decide +kernel
theorem dMo_value_61 : decode cMo_value 61 = .ok (.iload 4, 2) := by decide +kernel
theorem dMo_value_63 : decode cMo_value 63 = .ok (.iaload, 1) := by decide +kernel
theorem dMo_value_64 : decode cMo_value 64 = .ok (.i2l, 1) := by decide +kernel
theorem dMo_value_65 : decode cMo_value 65 = .ok (.goto 15, 3) := by decide +kernel
theorem dMo_value_68 : decode cMo_value 68 = .ok (.aload_n 0, 1) := by decide +kernel
theorem dMo_value_69 : decode cMo_value 69 = .ok (.getfield 13, 3) := by decide +kernel
theorem dMo_value_72 : decode cMo_value 72 = .ok (.aload_n 0, 1) := by decide +kernel
theorem dMo_value_73 : decode cMo_value 73 = .ok (.getfield 20, 3) := by decide +kernel
theorem dMo_value_76 : decode cMo_value 76 = .ok (.iload 4, 2) := by decide +kernel
theorem dMo_value_78 : decode cMo_value 78 = .ok (.iaload, 1) := by decide +kernel
theorem dMo_value_79 : decode cMo_value 79 = .ok (.laload, 1) := by decide +kernel
theorem dMo_value_80 : decode cMo_value 80 = .ok (.lastore, 1) := by decide +kernel
theorem dMo_value_81 : decode cMo_value 81 = .ok (.iinc 3 1, 3) := by decide +kernel
theorem dMo_value_84 : decode cMo_value 84 = .ok (.goto 101, 3) := by decide +kernel
theorem dMo_value_87 : decode cMo_value 87 = .ok (.iload 4, 2) := by decide +kernel
theorem dMo_value_89 : decode cMo_value 89 = .ok (.ifCond .le 49, 3) := by decide +kernel
theorem dMo_value_92 : decode cMo_value 92 = .ok (.aload_n 0, 1) := by decide +kernel
theorem dMo_value_93 : decode cMo_value 93 = .ok (.getfield 47, 3) := by decide +kernel
theorem dMo_value_96 : decode cMo_value 96 = .ok (.iload_n 2, 1) := by decide +kernel
theorem dMo_value_97 : decode cMo_value 97 = .ok (.iconst 0, 1) := by decide +kernel
theorem dMo_value_98 : decode cMo_value 98 = .ok (.iload 4, 2) := by decide +kernel
theorem dMo_value_100 : decode cMo_value 100 = .ok (.isub, 1) := by decide +kernel
theorem dMo_value_101 : decode cMo_value 101 = .ok (.iastore, 1) := by decide +kernel
theorem dMo_value_102 : decode cMo_value 102 = .ok (.aload_n 0, 1) := by decide +kernel
theorem dMo_value_103 : decode cMo_value 103 = .ok (.getfield 47, 3) := by decide +kernel
theorem dMo_value_106 : decode cMo_value 106 = .ok (.iload_n 2, 1) := by decide +kernel
theorem dMo_value_107 : decode cMo_value 107 = .ok (.iconst 1, 1) := by decide +kernel
theorem dMo_value_108 : decode cMo_value 108 = .ok (.iadd, 1) := by decide +kernel
theorem dMo_value_109 : decode cMo_value 109 = .ok (.aload_n 0, 1) := by decide +kernel
theorem dMo_value_110 : decode cMo_value 110 = .ok (.getfield 23, 3) := by decide +kernel
theorem dMo_value_113 : decode cMo_value 113 = .ok (.iload 4, 2) := by decide +kernel
theorem dMo_value_115 : decode cMo_value 115 = .ok (.iaload, 1) := by decide +kernel
theorem dMo_value_116 : decode cMo_value 116 = .ok (.iastore, 1) := by decide +kernel
theorem dMo_value_117 : decode cMo_value 117 = .ok (.aload_n 0, 1) := by decide +kernel
theorem dMo_value_118 : decode cMo_value 118 = .ok (.getfield 47, 3) := by decide +kernel
theorem dMo_value_121 : decode cMo_value 121 = .ok (.iload_n 2, 1) := by decide +kernel
theorem dMo_value_122 : decode cMo_value 122 = .ok (.iconst 2, 1) := by decide +kernel
theorem dMo_value_123 : decode cMo_value 123 = .ok (.iadd, 1) := by decide +kernel
theorem dMo_value_124 : decode cMo_value 124 = .ok (.aload_n 0, 1) := by decide +kernel
theorem dMo_value_125 : decode cMo_value 125 = .ok (.getfield 20, 3) := by decide +kernel
theorem dMo_value_128 : decode cMo_value 128 = .ok (.iload 4, 2) := by decide +kernel
theorem dMo_value_130 : decode cMo_value 130 = .ok (.iaload, 1) := by decide +kernel
theorem dMo_value_131 : decode cMo_value 131 = .ok (.iastore, 1) := by decide +kernel
theorem dMo_value_132 : decode cMo_value 132 = .ok (.iinc 2 3, 3) := by decide +kernel
theorem dMo_value_135 : decode cMo_value 135 = .ok (.goto 50, 3) := by decide +kernel
theorem dMo_value_138 : decode cMo_value 138 = .ok (.iinc 3 (-1), 3) := by decide +kernel
theorem dMo_value_141 : decode cMo_value 141 = .ok (.aload_n 0, 1) := by decide +kernel
theorem dMo_value_142 : decode cMo_value 142 = .ok (.getfield 50, 3) := by decide +kernel
theorem dMo_value_145 : decode cMo_value 145 = .ok (.iload_n 3, 1) := by decide +kernel
theorem dMo_value_146 : decode cMo_value 146 = .ok (.iconst 1, 1) := by decide +kernel
theorem dMo_value_147 : decode cMo_value 147 = .ok (.isub, 1) := by decide +kernel
theorem dMo_value_148 : decode cMo_value 148 = .ok (.aload_n 0, 1) := by decide +kernel
theorem dMo_value_149 : decode cMo_value 149 = .ok (.aload_n 0, 1) := by decide +kernel
theorem dMo_value_150 : decode cMo_value 150 = .ok (.getfield 17, 3) := by decide +kernel
theorem dMo_value_153 : decode cMo_value 153 = .ok (.iconst 0, 1) := by decide +kernel
theorem dMo_value_154 : decode cMo_value 154 = .ok (.iload 4, 2) := by decide +kernel
theorem dMo_value_156 : decode cMo_value 156 = .ok (.isub, 1) := by decide +kernel
theorem dMo_value_157 : decode cMo_value 157 = .ok (.iaload, 1) := by decide +kernel
theorem dMo_value_158 : decode cMo_value 158 = .ok (.aload_n 0, 1) := by decide +kernel
theorem dMo_value_159 : decode cMo_value 159 = .ok (.getfield 50, 3) := by decide +kernel
theorem dMo_value_162 : decode cMo_value 162 = .ok (.iload_n 3, 1) := by decide +kernel
theorem dMo_value_163 : decode cMo_value 163 = .ok (.iconst 1, 1) := by decide +kernel
theorem dMo_value_164 : decode cMo_value 164 = .ok (.isub, 1) := by decide +kernel
theorem dMo_value_165 : decode cMo_value 165 = .ok (.laload, 1) := by decide +kernel
theorem dMo_value_166 : decode cMo_value 166 = .ok (.aload_n 0, 1) := by decide +kernel
theorem dMo_value_167 : decode cMo_value 167 = .ok (.getfield 50, 3) := by decide +kernel
theorem dMo_value_170 : decode cMo_value 170 = .ok (.iload_n 3, 1) := by decide +kernel
theorem dMo_value_171 : decode cMo_value 171 = .ok (.laload, 1) := by decide +kernel
theorem dMo_value_172 : decode cMo_value 172 = .ok (.invokevirtual 103, 3) := by decide +kernel
theorem dMo_value_175 : decode cMo_value 175 = .ok (.lastore, 1) := by decide +kernel
theorem dMo_value_176 : decode cMo_value 176 = .ok (.aload_n 0, 1) := by decide +kernel
theorem dMo_value_177 : decode cMo_value 177 = .ok (.getfield 107, 3) := by decide +kernel
theorem dMo_value_180 : decode cMo_value 180 = .ok (.ifCond .eq 5, 3) := by decide +kernel
theorem dMo_value_183 : decode cMo_value 183 = .ok (.lconst 0, 1) := by decide +kernel
theorem dMo_value_184 : decode cMo_value 184 = .ok (.lreturn, 1) := by decide +kernel
theorem dMo_value_185 : decode cMo_value 185 = .ok (.goto (-174), 3) := by decide +kernel
theorem dMo_value_188 : decode cMo_value 188 = .ok (.aload_n 0, 1) := by decide +kernel
theorem dMo_value_189 : decode cMo_value 189 = .ok (.getfield 50, 3) := by decide +kernel
theorem dMo_value_192 : decode cMo_value 192 = .ok (.iconst 0, 1) := by decide +kernel
theorem dMo_value_193 : decode cMo_value 193 = .ok (.laload, 1) := by decide +kernel
theorem dMo_value_194 : decode cMo_value 194 = .ok (.lreturn, 1) := by decide +kernel
abbrev cMo_done : ByteArray := prog_11_method_15_code
def yMo_done : MethodName := ⟨RMo, "done", "(IJJ)J"⟩
def wsMo_done : List Cond := .code yMo_done cMo_done 6 (some .long) :: TB
theorem dMo_done_0 : decode cMo_done 0 = .ok (.iload_n 1, 1) := by decide +kernel
theorem dMo_done_1 : decode cMo_done 1 = .ok (.tableswitch 110 2 6 #[35, 40, 45, 50, 97], 35) := by decide +kernel
theorem dMo_done_36 : decode cMo_done 36 = .ok (.lload_n 2, 1) := by decide +kernel
theorem dMo_done_37 : decode cMo_done 37 = .ok (.lload 4, 2) := by decide +kernel
theorem dMo_done_39 : decode cMo_done 39 = .ok (.ladd, 1) := by decide +kernel
theorem dMo_done_40 : decode cMo_done 40 = .ok (.lreturn, 1) := by decide +kernel
theorem dMo_done_41 : decode cMo_done 41 = .ok (.lload_n 2, 1) := by decide +kernel
theorem dMo_done_42 : decode cMo_done 42 = .ok (.lload 4, 2) := by decide +kernel
theorem dMo_done_44 : decode cMo_done 44 = .ok (.lsub, 1) := by decide +kernel
theorem dMo_done_45 : decode cMo_done 45 = .ok (.lreturn, 1) := by decide +kernel
theorem dMo_done_46 : decode cMo_done 46 = .ok (.lload_n 2, 1) := by decide +kernel
theorem dMo_done_47 : decode cMo_done 47 = .ok (.lload 4, 2) := by decide +kernel
theorem dMo_done_49 : decode cMo_done 49 = .ok (.lmul, 1) := by decide +kernel
theorem dMo_done_50 : decode cMo_done 50 = .ok (.lreturn, 1) := by decide +kernel
theorem dMo_done_51 : decode cMo_done 51 = .ok (.aload_n 0, 1) := by decide +kernel
theorem dMo_done_52 : decode cMo_done 52 = .ok (.lload 4, 2) := by decide +kernel
theorem dMo_done_54 : decode cMo_done 54 = .ok (.lconst 0, 1) := by decide +kernel
theorem dMo_done_55 : decode cMo_done 55 = .ok (.lcmp, 1) := by decide +kernel
theorem dMo_done_56 : decode cMo_done 56 = .ok (.ifCond .ne 7, 3) := by decide +kernel
theorem dMo_done_59 : decode cMo_done 59 = .ok (.iconst 1, 1) := by decide +kernel
theorem dMo_done_60 : decode cMo_done 60 = .ok (.goto 4, 3) := by decide +kernel
theorem dMo_done_63 : decode cMo_done 63 = .ok (.iconst 0, 1) := by decide +kernel
theorem dMo_done_64 : decode cMo_done 64 = .ok (.putfield 107, 3) := by decide +kernel
theorem dMo_done_67 : decode cMo_done 67 = .ok (.aload_n 0, 1) := by decide +kernel
theorem dMo_done_68 : decode cMo_done 68 = .ok (.getfield 107, 3) := by decide +kernel
theorem dMo_done_71 : decode cMo_done 71 = .ok (.ifCond .eq 7, 3) := by decide +kernel
theorem dMo_done_74 : decode cMo_done 74 = .ok (.lconst 0, 1) := by decide +kernel
theorem dMo_done_75 : decode cMo_done 75 = .ok (.goto 22, 3) := by decide +kernel
theorem dMo_done_78 : decode cMo_done 78 = .ok (.lload 4, 2) := by decide +kernel
theorem dMo_done_80 : decode cMo_done 80 = .ok (.ldc2_w 111, 3) := by decide +kernel
theorem dMo_done_83 : decode cMo_done 83 = .ok (.lcmp, 1) := by decide +kernel
theorem dMo_done_84 : decode cMo_done 84 = .ok (.ifCond .ne 9, 3) := by decide +kernel
theorem dMo_done_87 : decode cMo_done 87 = .ok (.lconst 0, 1) := by decide +kernel
theorem dMo_done_88 : decode cMo_done 88 = .ok (.lload_n 2, 1) := by decide +kernel
theorem dMo_done_89 : decode cMo_done 89 = .ok (.lsub, 1) := by decide +kernel
theorem dMo_done_90 : decode cMo_done 90 = .ok (.goto 7, 3) := by decide +kernel
theorem dMo_done_93 : decode cMo_done 93 = .ok (.lload_n 2, 1) := by decide +kernel
theorem dMo_done_94 : decode cMo_done 94 = .ok (.lload 4, 2) := by decide +kernel
theorem dMo_done_96 : decode cMo_done 96 = .ok (.ldiv, 1) := by decide +kernel
theorem dMo_done_97 : decode cMo_done 97 = .ok (.lreturn, 1) := by decide +kernel
theorem dMo_done_98 : decode cMo_done 98 = .ok (.lload_n 2, 1) := by decide +kernel
theorem dMo_done_99 : decode cMo_done 99 = .ok (.lload 4, 2) := by decide +kernel
theorem dMo_done_101 : decode cMo_done 101 = .ok (.lcmp, 1) := by decide +kernel
theorem dMo_done_102 : decode cMo_done 102 = .ok (.ifCond .ge 7, 3) := by decide +kernel
theorem dMo_done_105 : decode cMo_done 105 = .ok (.lconst 1, 1) := by decide +kernel
theorem dMo_done_106 : decode cMo_done 106 = .ok (.goto 4, 3) := by decide +kernel
theorem dMo_done_109 : decode cMo_done 109 = .ok (.lconst 0, 1) := by decide +kernel
theorem dMo_done_110 : decode cMo_done 110 = .ok (.lreturn, 1) := by decide +kernel
theorem dMo_done_111 : decode cMo_done 111 = .ok (.lload_n 2, 1) := by decide +kernel
theorem dMo_done_112 : decode cMo_done 112 = .ok (.lload 4, 2) := by decide +kernel
theorem dMo_done_114 : decode cMo_done 114 = .ok (.lcmp, 1) := by decide +kernel
theorem dMo_done_115 : decode cMo_done 115 = .ok (.ifCond .ne 7, 3) := by decide +kernel
theorem dMo_done_118 : decode cMo_done 118 = .ok (.lconst 1, 1) := by decide +kernel
theorem dMo_done_119 : decode cMo_done 119 = .ok (.goto 4, 3) := by decide +kernel
theorem dMo_done_122 : decode cMo_done 122 = .ok (.lconst 0, 1) := by decide +kernel
theorem dMo_done_123 : decode cMo_done 123 = .ok (.lreturn, 1) := by decide +kernel
abbrev cMo_push : ByteArray := prog_11_method_16_code
def yMo_push : MethodName := ⟨RMo, "push", "(I)V"⟩
def wsMo_push : List Cond := .code yMo_push cMo_push 2 none :: TB
theorem dMo_push_0 : decode cMo_push 0 = .ok (.aload_n 0, 1) := by decide +kernel
theorem dMo_push_1 : decode cMo_push 1 = .ok (.getfield 41, 3) := by decide +kernel
theorem dMo_push_4 : decode cMo_push 4 = .ok (.aload_n 0, 1) := by decide +kernel
theorem dMo_push_5 : decode cMo_push 5 = .ok (.getfield 113, 3) := by decide +kernel
theorem dMo_push_8 : decode cMo_push 8 = .ok (.iload_n 1, 1) := by decide +kernel
theorem dMo_push_9 : decode cMo_push 9 = .ok (.iastore, 1) := by decide +kernel
theorem dMo_push_10 : decode cMo_push 10 = .ok (.aload_n 0, 1) := by decide +kernel
theorem dMo_push_11 : decode cMo_push 11 = .ok (.dup, 1) := by decide +kernel
theorem dMo_push_12 : decode cMo_push 12 = .ok (.getfield 113, 3) := by decide +kernel
theorem dMo_push_15 : decode cMo_push 15 = .ok (.iconst 1, 1) := by decide +kernel
theorem dMo_push_16 : decode cMo_push 16 = .ok (.iadd, 1) := by decide +kernel
theorem dMo_push_17 : decode cMo_push 17 = .ok (.putfield 113, 3) := by decide +kernel
theorem dMo_push_20 : decode cMo_push 20 = .ok (.return_, 1) := by decide +kernel
abbrev cMo_over : ByteArray := prog_11_method_17_code
def yMo_over : MethodName := ⟨RMo, "over", "(J)I"⟩
def wsMo_over : List Cond := .code yMo_over cMo_over 3 (some .int) :: TB
theorem dMo_over_0 : decode cMo_over 0 = .ok (.aload_n 0, 1) := by decide +kernel
theorem dMo_over_1 : decode cMo_over 1 = .ok (.lload_n 1, 1) := by decide +kernel
theorem dMo_over_2 : decode cMo_over 2 = .ok (.putfield 116, 3) := by decide +kernel
theorem dMo_over_5 : decode cMo_over 5 = .ok (.iconst 1, 1) := by decide +kernel
theorem dMo_over_6 : decode cMo_over 6 = .ok (.ireturn, 1) := by decide +kernel
abbrev cMo_raise : ByteArray := prog_11_method_18_code
def yMo_raise : MethodName := ⟨RMo, "raise", "(I)I"⟩
def wsMo_raise : List Cond := .code yMo_raise cMo_raise 2 (some .int) :: TB
theorem dMo_raise_0 : decode cMo_raise 0 = .ok (.aload_n 0, 1) := by decide +kernel
theorem dMo_raise_1 : decode cMo_raise 1 = .ok (.iload_n 1, 1) := by decide +kernel
theorem dMo_raise_2 : decode cMo_raise 2 = .ok (.putfield 119, 3) := by decide +kernel
theorem dMo_raise_5 : decode cMo_raise 5 = .ok (.iconst 2, 1) := by decide +kernel
theorem dMo_raise_6 : decode cMo_raise 6 = .ok (.ireturn, 1) := by decide +kernel
abbrev cMo_goTo : ByteArray := prog_11_method_19_code
def yMo_goTo : MethodName := ⟨RMo, "goTo", "(J)V"⟩
def wsMo_goTo : List Cond := .code yMo_goTo cMo_goTo 3 none :: TB
theorem dMo_goTo_0 : decode cMo_goTo 0 = .ok (.lload_n 1, 1) := by decide +kernel
theorem dMo_goTo_1 : decode cMo_goTo 1 = .ok (.lconst 1, 1) := by decide +kernel
theorem dMo_goTo_2 : decode cMo_goTo 2 = .ok (.lcmp, 1) := by decide +kernel
theorem dMo_goTo_3 : decode cMo_goTo 3 = .ok (.ifCond .lt 13, 3) := by decide +kernel
theorem dMo_goTo_6 : decode cMo_goTo 6 = .ok (.lload_n 1, 1) := by decide +kernel
theorem dMo_goTo_7 : decode cMo_goTo 7 = .ok (.aload_n 0, 1) := by decide +kernel
theorem dMo_goTo_8 : decode cMo_goTo 8 = .ok (.getfield 97, 3) := by decide +kernel
theorem dMo_goTo_11 : decode cMo_goTo 11 = .ok (.i2l, 1) := by decide +kernel
theorem dMo_goTo_12 : decode cMo_goTo 12 = .ok (.lcmp, 1) := by decide +kernel
theorem dMo_goTo_13 : decode cMo_goTo 13 = .ok (.ifCond .le 4, 3) := by decide +kernel
theorem dMo_goTo_16 : decode cMo_goTo 16 = .ok (.return_, 1) := by decide +kernel
theorem dMo_goTo_17 : decode cMo_goTo 17 = .ok (.aload_n 0, 1) := by decide +kernel
theorem dMo_goTo_18 : decode cMo_goTo 18 = .ok (.lload_n 1, 1) := by decide +kernel
theorem dMo_goTo_19 : decode cMo_goTo 19 = .ok (.l2i, 1) := by decide +kernel
theorem dMo_goTo_20 : decode cMo_goTo 20 = .ok (.iconst 1, 1) := by decide +kernel
theorem dMo_goTo_21 : decode cMo_goTo 21 = .ok (.isub, 1) := by decide +kernel
theorem dMo_goTo_22 : decode cMo_goTo 22 = .ok (.putfield 122, 3) := by decide +kernel
theorem dMo_goTo_25 : decode cMo_goTo 25 = .ok (.aload_n 0, 1) := by decide +kernel
theorem dMo_goTo_26 : decode cMo_goTo 26 = .ok (.iconst 0, 1) := by decide +kernel
theorem dMo_goTo_27 : decode cMo_goTo 27 = .ok (.putfield 113, 3) := by decide +kernel
theorem dMo_goTo_30 : decode cMo_goTo 30 = .ok (.return_, 1) := by decide +kernel
abbrev cMo_fitting : ByteArray := prog_11_method_20_code
def yMo_fitting : MethodName := ⟨RMo, "fitting", "(IJ)I"⟩
def wsMo_fitting : List Cond := .code yMo_fitting cMo_fitting 11 (some .int) :: TB
theorem dMo_fitting_0 : decode cMo_fitting 0 = .ok (.iload_n 1, 1) := by decide +kernel
theorem dMo_fitting_1 : decode cMo_fitting 1 = .ok (.istore 4, 2) := by decide +kernel
theorem dMo_fitting_3 : decode cMo_fitting 3 = .ok (.iload 4, 2) := by decide +kernel
theorem dMo_fitting_5 : decode cMo_fitting 5 = .ok (.ifCond .le 145, 3) := by decide +kernel
theorem dMo_fitting_8 : decode cMo_fitting 8 = .ok (.aload_n 0, 1) := by decide +kernel
theorem dMo_fitting_9 : decode cMo_fitting 9 = .ok (.getfield 20, 3) := by decide +kernel
theorem dMo_fitting_12 : decode cMo_fitting 12 = .ok (.iload 4, 2) := by decide +kernel
theorem dMo_fitting_14 : decode cMo_fitting 14 = .ok (.iaload, 1) := by decide +kernel
theorem dMo_fitting_15 : decode cMo_fitting 15 = .ok (.istore 5, 2) := by decide +kernel
theorem dMo_fitting_17 : decode cMo_fitting 17 = .ok (.aload_n 0, 1) := by decide +kernel
theorem dMo_fitting_18 : decode cMo_fitting 18 = .ok (.getfield 20, 3) := by decide +kernel
theorem dMo_fitting_21 : decode cMo_fitting 21 = .ok (.iload 5, 2) := by decide +kernel
theorem dMo_fitting_23 : decode cMo_fitting 23 = .ok (.iaload, 1) := by decide +kernel
theorem dMo_fitting_24 : decode cMo_fitting 24 = .ok (.istore 6, 2) := by decide +kernel
theorem dMo_fitting_26 : decode cMo_fitting 26 = .ok (.iload 6, 2) := by decide +kernel
theorem dMo_fitting_28 : decode cMo_fitting 28 = .ok (.ifCond .ne 11, 3) := by decide +kernel
theorem dMo_fitting_31 : decode cMo_fitting 31 = .ok (.aload_n 0, 1) := by decide +kernel
theorem dMo_fitting_32 : decode cMo_fitting 32 = .ok (.getfield 23, 3) := by decide +kernel
theorem dMo_fitting_35 : decode cMo_fitting 35 = .ok (.iload 5, 2) := by decide +kernel
theorem dMo_fitting_37 : decode cMo_fitting 37 = .ok (.iaload, 1) := by decide +kernel
theorem dMo_fitting_38 : decode cMo_fitting 38 = .ok (.ireturn, 1) := by decide +kernel
theorem dMo_fitting_39 : decode cMo_fitting 39 = .ok (.aload_n 0, 1) := by decide +kernel
theorem dMo_fitting_40 : decode cMo_fitting 40 = .ok (.aload_n 0, 1) := by decide +kernel
theorem dMo_fitting_41 : decode cMo_fitting 41 = .ok (.getfield 17, 3) := by decide +kernel
theorem dMo_fitting_44 : decode cMo_fitting 44 = .ok (.iload 6, 2) := by decide +kernel
theorem dMo_fitting_46 : decode cMo_fitting 46 = .ok (.iaload, 1) := by decide +kernel
theorem dMo_fitting_47 : decode cMo_fitting 47 = .ok (.bipush 8, 2) := by decide +kernel
theorem dMo_fitting_49 : decode cMo_fitting 49 = .ok (.if_icmp .ne 13, 3) := by decide +kernel
theorem dMo_fitting_52 : decode cMo_fitting 52 = .ok (.aload_n 0, 1) := by decide +kernel
theorem dMo_fitting_53 : decode cMo_fitting 53 = .ok (.getfield 20, 3) := by decide +kernel
theorem dMo_fitting_56 : decode cMo_fitting 56 = .ok (.iload 6, 2) := by decide +kernel
theorem dMo_fitting_58 : decode cMo_fitting 58 = .ok (.iaload, 1) := by decide +kernel
theorem dMo_fitting_59 : decode cMo_fitting 59 = .ok (.goto 5, 3) := by decide +kernel
theorem dMo_fitting_62 : decode cMo_fitting 62 = .ok (.iload 6, 2) := by decide +kernel
theorem dMo_fitting_64 : decode cMo_fitting 64 = .ok (.invokevirtual 125, 3) := by decide +kernel
theorem dMo_fitting_67 : decode cMo_fitting 67 = .ok (.lstore 7, 2) := by decide +kernel
theorem dMo_fitting_69 : decode cMo_fitting 69 = .ok (.aload_n 0, 1) := by decide +kernel
theorem dMo_fitting_70 : decode cMo_fitting 70 = .ok (.getfield 107, 3) := by decide +kernel
theorem dMo_fitting_73 : decode cMo_fitting 73 = .ok (.ifCond .eq 5, 3) := by decide +kernel
theorem dMo_fitting_76 : decode cMo_fitting 76 = .ok (.iconst 0, 1) := by decide +kernel
theorem dMo_fitting_77 : decode cMo_fitting 77 = .ok (.ireturn, 1) := by decide +kernel
theorem dMo_fitting_78 : decode cMo_fitting 78 = .ok (.lload 7, 2) := by decide +kernel
theorem dMo_fitting_80 : decode cMo_fitting 80 = .ok (.lstore 9, 2) := by decide +kernel
theorem dMo_fitting_82 : decode cMo_fitting 82 = .ok (.aload_n 0, 1) := by decide +kernel
theorem dMo_fitting_83 : decode cMo_fitting 83 = .ok (.getfield 17, 3) := by decide +kernel
theorem dMo_fitting_86 : decode cMo_fitting 86 = .ok (.iload 6, 2) := by decide +kernel
theorem dMo_fitting_88 : decode cMo_fitting 88 = .ok (.iaload, 1) := by decide +kernel
theorem dMo_fitting_89 : decode cMo_fitting 89 = .ok (.bipush 8, 2) := by decide +kernel
theorem dMo_fitting_91 : decode cMo_fitting 91 = .ok (.if_icmp .ne 16, 3) := by decide +kernel
theorem dMo_fitting_94 : decode cMo_fitting 94 = .ok (.aload_n 0, 1) := by decide +kernel
theorem dMo_fitting_95 : decode cMo_fitting 95 = .ok (.aload_n 0, 1) := by decide +kernel
theorem dMo_fitting_96 : decode cMo_fitting 96 = .ok (.getfield 23, 3) := by decide +kernel
theorem dMo_fitting_99 : decode cMo_fitting 99 = .ok (.iload 6, 2) := by decide +kernel
theorem dMo_fitting_101 : decode cMo_fitting 101 = .ok (.iaload, 1) := by decide +kernel
theorem dMo_fitting_102 : decode cMo_fitting 102 = .ok (.invokevirtual 125, 3) := by decide +kernel
theorem dMo_fitting_105 : decode cMo_fitting 105 = .ok (.lstore 9, 2) := by decide +kernel
theorem dMo_fitting_107 : decode cMo_fitting 107 = .ok (.aload_n 0, 1) := by decide +kernel
theorem dMo_fitting_108 : decode cMo_fitting 108 = .ok (.getfield 107, 3) := by decide +kernel
theorem dMo_fitting_111 : decode cMo_fitting 111 = .ok (.ifCond .eq 5, 3) := by decide +kernel
theorem dMo_fitting_114 : decode cMo_fitting 114 = .ok (.iconst 0, 1) := by decide +kernel
theorem dMo_fitting_115 : decode cMo_fitting 115 = .ok (.ireturn, 1) := by decide +kernel
theorem dMo_fitting_116 : decode cMo_fitting 116 = .ok (.lload_n 2, 1) := by decide +kernel
theorem dMo_fitting_117 : decode cMo_fitting 117 = .ok (.lload 7, 2) := by decide +kernel
theorem dMo_fitting_119 : decode cMo_fitting 119 = .ok (.lcmp, 1) := by decide +kernel
theorem dMo_fitting_120 : decode cMo_fitting 120 = .ok (.ifCond .lt 18, 3) := by decide +kernel
theorem dMo_fitting_123 : decode cMo_fitting 123 = .ok (.lload_n 2, 1) := by decide +kernel
theorem dMo_fitting_124 : decode cMo_fitting 124 = .ok (.lload 9, 2) := by decide +kernel
theorem dMo_fitting_126 : decode cMo_fitting 126 = .ok (.lcmp, 1) := by decide +kernel
theorem dMo_fitting_127 : decode cMo_fitting 127 = .ok (.ifCond .gt 11, 3) := by decide +kernel
theorem dMo_fitting_130 : decode cMo_fitting 130 = .ok (.aload_n 0, 1) := by decide +kernel
theorem dMo_fitting_131 : decode cMo_fitting 131 = .ok (.getfield 23, 3) := by decide +kernel
theorem dMo_fitting_134 : decode cMo_fitting 134 = .ok (.iload 5, 2) := by decide +kernel
theorem dMo_fitting_136 : decode cMo_fitting 136 = .ok (.iaload, 1) := by decide +kernel
theorem dMo_fitting_137 : decode cMo_fitting 137 = .ok (.ireturn, 1) := by decide +kernel
theorem dMo_fitting_138 : decode cMo_fitting 138 = .ok (.aload_n 0, 1) := by decide +kernel
theorem dMo_fitting_139 : decode cMo_fitting 139 = .ok (.getfield 23, 3) := by decide +kernel
theorem dMo_fitting_142 : decode cMo_fitting 142 = .ok (.iload 4, 2) := by decide +kernel
theorem dMo_fitting_144 : decode cMo_fitting 144 = .ok (.iaload, 1) := by decide +kernel
theorem dMo_fitting_145 : decode cMo_fitting 145 = .ok (.istore 4, 2) := by decide +kernel
theorem dMo_fitting_147 : decode cMo_fitting 147 = .ok (.goto (-144), 3) := by decide +kernel
theorem dMo_fitting_150 : decode cMo_fitting 150 = .ok (.iconst 0, 1) := by decide +kernel
theorem dMo_fitting_151 : decode cMo_fitting 151 = .ok (.ireturn, 1) := by decide +kernel
abbrev cMo_answered : ByteArray := prog_11_method_21_code
def yMo_answered : MethodName := ⟨RMo, "answered", "(I)I"⟩
def wsMo_answered : List Cond := .code yMo_answered cMo_answered 5 (some .int) :: TB
theorem dMo_answered_0 : decode cMo_answered 0 = .ok (.bipush 20, 2) := by decide +kernel
theorem dMo_answered_2 : decode cMo_answered 2 = .ok (.iload_n 1, 1) := by decide +kernel
theorem dMo_answered_3 : decode cMo_answered 3 = .ok (.imul, 1) := by decide +kernel
theorem dMo_answered_4 : decode cMo_answered 4 = .ok (.bipush 20, 2) := by decide +kernel
theorem dMo_answered_6 : decode cMo_answered 6 = .ok (.isub, 1) := by decide +kernel
theorem dMo_answered_7 : decode cMo_answered 7 = .ok (.istore_n 2, 1) := by decide +kernel
theorem dMo_answered_8 : decode cMo_answered 8 = .ok (.iconst 0, 1) := by decide +kernel
theorem dMo_answered_9 : decode cMo_answered 9 = .ok (.istore_n 3, 1) := by decide +kernel
theorem dMo_answered_10 : decode cMo_answered 10 = .ok (.aload_n 0, 1) := by decide +kernel
theorem dMo_answered_11 : decode cMo_answered 11 = .ok (.getfield 29, 3) := by decide +kernel
theorem dMo_answered_14 : decode cMo_answered 14 = .ok (.iload_n 1, 1) := by decide +kernel
theorem dMo_answered_15 : decode cMo_answered 15 = .ok (.iaload, 1) := by decide +kernel
theorem dMo_answered_16 : decode cMo_answered 16 = .ok (.ifCond .le 70, 3) := by decide +kernel
theorem dMo_answered_19 : decode cMo_answered 19 = .ok (.aload_n 0, 1) := by decide +kernel
theorem dMo_answered_20 : decode cMo_answered 20 = .ok (.getfield 32, 3) := by decide +kernel
theorem dMo_answered_23 : decode cMo_answered 23 = .ok (.iload_n 2, 1) := by decide +kernel
theorem dMo_answered_24 : decode cMo_answered 24 = .ok (.iaload, 1) := by decide +kernel
theorem dMo_answered_25 : decode cMo_answered 25 = .ok (.istore_n 3, 1) := by decide +kernel
theorem dMo_answered_26 : decode cMo_answered 26 = .ok (.aload_n 0, 1) := by decide +kernel
theorem dMo_answered_27 : decode cMo_answered 27 = .ok (.getfield 29, 3) := by decide +kernel
theorem dMo_answered_30 : decode cMo_answered 30 = .ok (.iload_n 1, 1) := by decide +kernel
theorem dMo_answered_31 : decode cMo_answered 31 = .ok (.dup2, 1) := by decide +kernel
theorem dMo_answered_32 : decode cMo_answered 32 = .ok (.iaload, 1) := by decide +kernel
theorem dMo_answered_33 : decode cMo_answered 33 = .ok (.iconst 1, 1) := by decide +kernel
theorem dMo_answered_34 : decode cMo_answered 34 = .ok (.isub, 1) := by decide +kernel
theorem dMo_answered_35 : decode cMo_answered 35 = .ok (.iastore, 1) := by decide +kernel
theorem dMo_answered_36 : decode cMo_answered 36 = .ok (.aload_n 0, 1) := by decide +kernel
theorem dMo_answered_37 : decode cMo_answered 37 = .ok (.dup, 1) := by decide +kernel
theorem dMo_answered_38 : decode cMo_answered 38 = .ok (.getfield 100, 3) := by decide +kernel
theorem dMo_answered_41 : decode cMo_answered 41 = .ok (.iconst 1, 1) := by decide +kernel
theorem dMo_answered_42 : decode cMo_answered 42 = .ok (.isub, 1) := by decide +kernel
theorem dMo_answered_43 : decode cMo_answered 43 = .ok (.putfield 100, 3) := by decide +kernel
theorem dMo_answered_46 : decode cMo_answered 46 = .ok (.iconst 0, 1) := by decide +kernel
theorem dMo_answered_47 : decode cMo_answered 47 = .ok (.istore 4, 2) := by decide +kernel
theorem dMo_answered_49 : decode cMo_answered 49 = .ok (.iload 4, 2) := by decide +kernel
theorem dMo_answered_51 : decode cMo_answered 51 = .ok (.aload_n 0, 1) := by decide +kernel
theorem dMo_answered_52 : decode cMo_answered 52 = .ok (.getfield 29, 3) := by decide +kernel
theorem dMo_answered_55 : decode cMo_answered 55 = .ok (.iload_n 1, 1) := by decide +kernel
theorem dMo_answered_56 : decode cMo_answered 56 = .ok (.iaload, 1) := by decide +kernel
theorem dMo_answered_57 : decode cMo_answered 57 = .ok (.if_icmp .ge 29, 3) := by decide +kernel
theorem dMo_answered_60 : decode cMo_answered 60 = .ok (.aload_n 0, 1) := by decide +kernel
theorem dMo_answered_61 : decode cMo_answered 61 = .ok (.getfield 32, 3) := by decide +kernel
theorem dMo_answered_64 : decode cMo_answered 64 = .ok (.iload_n 2, 1) := by decide +kernel
theorem dMo_answered_65 : decode cMo_answered 65 = .ok (.iload 4, 2) := by decide +kernel
theorem dMo_answered_67 : decode cMo_answered 67 = .ok (.iadd, 1) := by decide +kernel
theorem dMo_answered_68 : decode cMo_answered 68 = .ok (.aload_n 0, 1) := by decide +kernel
theorem dMo_answered_69 : decode cMo_answered 69 = .ok (.getfield 32, 3) := by decide +kernel
theorem dMo_answered_72 : decode cMo_answered 72 = .ok (.iload_n 2, 1) := by decide +kernel
theorem dMo_answered_73 : decode cMo_answered 73 = .ok (.iload 4, 2) := by decide +kernel
theorem dMo_answered_75 : decode cMo_answered 75 = .ok (.iadd, 1) := by decide +kernel
theorem dMo_answered_76 : decode cMo_answered 76 = .ok (.iconst 1, 1) := by decide +kernel
theorem dMo_answered_77 : decode cMo_answered 77 = .ok (.iadd, 1) := by decide +kernel
theorem dMo_answered_78 : decode cMo_answered 78 = .ok (.iaload, 1) := by decide +kernel
theorem dMo_answered_79 : decode cMo_answered 79 = .ok (.iastore, 1) := by decide +kernel
theorem dMo_answered_80 : decode cMo_answered 80 = .ok (.iinc 4 1, 3) := by decide +kernel
theorem dMo_answered_83 : decode cMo_answered 83 = .ok (.goto (-34), 3) := by decide +kernel
theorem dMo_answered_86 : decode cMo_answered 86 = .ok (.iload_n 3, 1) := by decide +kernel
theorem dMo_answered_87 : decode cMo_answered 87 = .ok (.ifCond .ne 22, 3) := by decide +kernel
theorem dMo_answered_90 : decode cMo_answered 90 = .ok (.aload_n 0, 1) := by decide +kernel
theorem dMo_answered_91 : decode cMo_answered 91 = .ok (.getfield 23, 3) := by decide +kernel
theorem dMo_answered_94 : decode cMo_answered 94 = .ok (.iload_n 1, 1) := by decide +kernel
theorem dMo_answered_95 : decode cMo_answered 95 = .ok (.iaload, 1) := by decide +kernel
theorem dMo_answered_96 : decode cMo_answered 96 = .ok (.ifCond .le 13, 3) := by decide +kernel
theorem dMo_answered_99 : decode cMo_answered 99 = .ok (.aload_n 0, 1) := by decide +kernel
theorem dMo_answered_100 : decode cMo_answered 100 = .ok (.aload_n 0, 1) := by decide +kernel
theorem dMo_answered_101 : decode cMo_answered 101 = .ok (.getfield 23, 3) := by decide +kernel
theorem dMo_answered_104 : decode cMo_answered 104 = .ok (.iload_n 1, 1) := by decide +kernel
theorem dMo_answered_105 : decode cMo_answered 105 = .ok (.iaload, 1) := by decide +kernel
theorem dMo_answered_106 : decode cMo_answered 106 = .ok (.invokevirtual 129, 3) := by decide +kernel
theorem dMo_answered_109 : decode cMo_answered 109 = .ok (.iload_n 3, 1) := by decide +kernel
theorem dMo_answered_110 : decode cMo_answered 110 = .ok (.ifCond .le 22, 3) := by decide +kernel
theorem dMo_answered_113 : decode cMo_answered 113 = .ok (.aload_n 0, 1) := by decide +kernel
theorem dMo_answered_114 : decode cMo_answered 114 = .ok (.getfield 20, 3) := by decide +kernel
theorem dMo_answered_117 : decode cMo_answered 117 = .ok (.iload_n 1, 1) := by decide +kernel
theorem dMo_answered_118 : decode cMo_answered 118 = .ok (.iaload, 1) := by decide +kernel
theorem dMo_answered_119 : decode cMo_answered 119 = .ok (.ifCond .le 13, 3) := by decide +kernel
theorem dMo_answered_122 : decode cMo_answered 122 = .ok (.aload_n 0, 1) := by decide +kernel
theorem dMo_answered_123 : decode cMo_answered 123 = .ok (.aload_n 0, 1) := by decide +kernel
theorem dMo_answered_124 : decode cMo_answered 124 = .ok (.getfield 20, 3) := by decide +kernel
theorem dMo_answered_127 : decode cMo_answered 127 = .ok (.iload_n 1, 1) := by decide +kernel
theorem dMo_answered_128 : decode cMo_answered 128 = .ok (.iaload, 1) := by decide +kernel
theorem dMo_answered_129 : decode cMo_answered 129 = .ok (.invokevirtual 129, 3) := by decide +kernel
theorem dMo_answered_132 : decode cMo_answered 132 = .ok (.iload_n 3, 1) := by decide +kernel
theorem dMo_answered_133 : decode cMo_answered 133 = .ok (.iconst 4, 1) := by decide +kernel
theorem dMo_answered_134 : decode cMo_answered 134 = .ok (.if_icmp .le 23, 3) := by decide +kernel
theorem dMo_answered_137 : decode cMo_answered 137 = .ok (.aload_n 0, 1) := by decide +kernel
theorem dMo_answered_138 : decode cMo_answered 138 = .ok (.getfield 20, 3) := by decide +kernel
theorem dMo_answered_141 : decode cMo_answered 141 = .ok (.iload_n 1, 1) := by decide +kernel
theorem dMo_answered_142 : decode cMo_answered 142 = .ok (.iaload, 1) := by decide +kernel
theorem dMo_answered_143 : decode cMo_answered 143 = .ok (.ifCond .ne 14, 3) := by decide +kernel
theorem dMo_answered_146 : decode cMo_answered 146 = .ok (.aload_n 0, 1) := by decide +kernel
theorem dMo_answered_147 : decode cMo_answered 147 = .ok (.bipush 10, 2) := by decide +kernel
theorem dMo_answered_149 : decode cMo_answered 149 = .ok (.iload_n 3, 1) := by decide +kernel
theorem dMo_answered_150 : decode cMo_answered 150 = .ok (.iadd, 1) := by decide +kernel
theorem dMo_answered_151 : decode cMo_answered 151 = .ok (.invokevirtual 133, 3) := by decide +kernel
theorem dMo_answered_154 : decode cMo_answered 154 = .ok (.goto 4, 3) := by decide +kernel
theorem dMo_answered_157 : decode cMo_answered 157 = .ok (.iconst 0, 1) := by decide +kernel
theorem dMo_answered_158 : decode cMo_answered 158 = .ok (.ireturn, 1) := by decide +kernel
abbrev cMo_act : ByteArray := prog_11_method_22_code
def yMo_act : MethodName := ⟨RMo, "act", "(I)I"⟩
def wsMo_act : List Cond := .code yMo_act cMo_act 7 (some .int) :: TB
theorem dMo_act_0 : decode cMo_act 0 = .ok (.aload_n 0, 1) := by decide +kernel
theorem dMo_act_1 : decode cMo_act 1 = .ok (.getfield 17, 3) := by decide +kernel
theorem dMo_act_4 : decode cMo_act 4 = .ok (.iload_n 1, 1) := by decide +kernel
theorem dMo_act_5 : decode cMo_act 5 = .ok (.iaload, 1) := by decide +kernel
theorem dMo_act_6 : decode cMo_act 6 = .ok (.istore_n 2, 1) := by decide +kernel
theorem dMo_act_7 : decode cMo_act 7 = .ok (.aload_n 0, 1) := by decide +kernel
theorem dMo_act_8 : decode cMo_act 8 = .ok (.iconst 0, 1) := by decide +kernel
theorem dMo_act_9 : decode cMo_act 9 = .ok (.putfield 107, 3) := by decide +kernel
theorem dMo_act_12 : decode cMo_act 12 = .ok (.iload_n 2, 1) := by decide +kernel
theorem dMo_act_13 : decode cMo_act 13 = .ok (.bipush 11, 2) := by decide +kernel
theorem dMo_act_15 : decode cMo_act 15 = .ok (.if_icmp .eq 27, 3) := by decide +kernel
theorem dMo_act_18 : decode cMo_act 18 = .ok (.iload_n 2, 1) := by decide +kernel
theorem dMo_act_19 : decode cMo_act 19 = .ok (.bipush 12, 2) := by decide +kernel
theorem dMo_act_21 : decode cMo_act 21 = .ok (.if_icmp .eq 21, 3) := by decide +kernel
theorem dMo_act_24 : decode cMo_act 24 = .ok (.iload_n 2, 1) := by decide +kernel
theorem dMo_act_25 : decode cMo_act 25 = .ok (.bipush 14, 2) := by decide +kernel
theorem dMo_act_27 : decode cMo_act 27 = .ok (.if_icmp .eq 15, 3) := by decide +kernel
theorem dMo_act_30 : decode cMo_act 30 = .ok (.iload_n 2, 1) := by decide +kernel
theorem dMo_act_31 : decode cMo_act 31 = .ok (.bipush 23, 2) := by decide +kernel
theorem dMo_act_33 : decode cMo_act 33 = .ok (.if_icmp .eq 9, 3) := by decide +kernel
theorem dMo_act_36 : decode cMo_act 36 = .ok (.iload_n 2, 1) := by decide +kernel
theorem dMo_act_37 : decode cMo_act 37 = .ok (.bipush 24, 2) := by decide +kernel
theorem dMo_act_39 : decode cMo_act 39 = .ok (.if_icmp .ne 7, 3) := by decide +kernel
theorem dMo_act_42 : decode cMo_act 42 = .ok (.iconst 1, 1) := by decide +kernel
theorem dMo_act_43 : decode cMo_act 43 = .ok (.goto 4, 3) := by decide +kernel
theorem dMo_act_46 : decode cMo_act 46 = .ok (.iconst 0, 1) := by decide +kernel
theorem dMo_act_47 : decode cMo_act 47 = .ok (.istore_n 3, 1) := by decide +kernel
theorem dMo_act_48 : decode cMo_act 48 = .ok (.iload_n 3, 1) := by decide +kernel
theorem dMo_act_49 : decode cMo_act 49 = .ok (.ifCond .eq 16, 3) := by decide +kernel
theorem dMo_act_52 : decode cMo_act 52 = .ok (.aload_n 0, 1) := by decide +kernel
theorem dMo_act_53 : decode cMo_act 53 = .ok (.aload_n 0, 1) := by decide +kernel
theorem dMo_act_54 : decode cMo_act 54 = .ok (.getfield 20, 3) := by decide +kernel
theorem dMo_act_57 : decode cMo_act 57 = .ok (.iload_n 1, 1) := by decide +kernel
theorem dMo_act_58 : decode cMo_act 58 = .ok (.iaload, 1) := by decide +kernel
theorem dMo_act_59 : decode cMo_act 59 = .ok (.invokevirtual 125, 3) := by decide +kernel
theorem dMo_act_62 : decode cMo_act 62 = .ok (.goto 29, 3) := by decide +kernel
theorem dMo_act_65 : decode cMo_act 65 = .ok (.iload_n 2, 1) := by decide +kernel
theorem dMo_act_66 : decode cMo_act 66 = .ok (.bipush 9, 2) := by decide +kernel
theorem dMo_act_68 : decode cMo_act 68 = .ok (.if_icmp .eq 9, 3) := by decide +kernel
theorem dMo_act_71 : decode cMo_act 71 = .ok (.iload_n 2, 1) := by decide +kernel
theorem dMo_act_72 : decode cMo_act 72 = .ok (.bipush 18, 2) := by decide +kernel
theorem dMo_act_74 : decode cMo_act 74 = .ok (.if_icmp .ne 16, 3) := by decide +kernel
theorem dMo_act_77 : decode cMo_act 77 = .ok (.aload_n 0, 1) := by decide +kernel
theorem dMo_act_78 : decode cMo_act 78 = .ok (.aload_n 0, 1) := by decide +kernel
theorem dMo_act_79 : decode cMo_act 79 = .ok (.getfield 23, 3) := by decide +kernel
theorem dMo_act_82 : decode cMo_act 82 = .ok (.iload_n 1, 1) := by decide +kernel
theorem dMo_act_83 : decode cMo_act 83 = .ok (.iaload, 1) := by decide +kernel
theorem dMo_act_84 : decode cMo_act 84 = .ok (.invokevirtual 125, 3) := by decide +kernel
theorem dMo_act_87 : decode cMo_act 87 = .ok (.goto 4, 3) := by decide +kernel
theorem dMo_act_90 : decode cMo_act 90 = .ok (.lconst 0, 1) := by decide +kernel
theorem dMo_act_91 : decode cMo_act 91 = .ok (.lstore 4, 2) := by decide +kernel
theorem dMo_act_93 : decode cMo_act 93 = .ok (.iload_n 2, 1) := by decide +kernel
theorem dMo_act_94 : decode cMo_act 94 = .ok (.bipush 14, 2) := by decide +kernel
theorem dMo_act_96 : decode cMo_act 96 = .ok (.if_icmp .ne 25, 3) := by decide +kernel
theorem dMo_act_99 : decode cMo_act 99 = .ok (.aload_n 0, 1) := by decide +kernel
theorem dMo_act_100 : decode cMo_act 100 = .ok (.getfield 107, 3) := by decide +kernel
theorem dMo_act_103 : decode cMo_act 103 = .ok (.ifCond .ne 18, 3) := by decide +kernel
theorem dMo_act_106 : decode cMo_act 106 = .ok (.aload_n 0, 1) := by decide +kernel
theorem dMo_act_107 : decode cMo_act 107 = .ok (.aload_n 0, 1) := by decide +kernel
theorem dMo_act_108 : decode cMo_act 108 = .ok (.getfield 23, 3) := by decide +kernel
theorem dMo_act_111 : decode cMo_act 111 = .ok (.iload_n 1, 1) := by decide +kernel
theorem dMo_act_112 : decode cMo_act 112 = .ok (.iaload, 1) := by decide +kernel
theorem dMo_act_113 : decode cMo_act 113 = .ok (.lload 4, 2) := by decide +kernel
theorem dMo_act_115 : decode cMo_act 115 = .ok (.invokevirtual 137, 3) := by decide +kernel
theorem dMo_act_118 : decode cMo_act 118 = .ok (.goto 4, 3) := by decide +kernel
theorem dMo_act_121 : decode cMo_act 121 = .ok (.iconst 0, 1) := by decide +kernel
theorem dMo_act_122 : decode cMo_act 122 = .ok (.istore 6, 2) := by decide +kernel
theorem dMo_act_124 : decode cMo_act 124 = .ok (.aload_n 0, 1) := by decide +kernel
theorem dMo_act_125 : decode cMo_act 125 = .ok (.getfield 107, 3) := by decide +kernel
theorem dMo_act_128 : decode cMo_act 128 = .ok (.ifCond .eq 9, 3) := by decide +kernel
theorem dMo_act_131 : decode cMo_act 131 = .ok (.aload_n 0, 1) := by decide +kernel
theorem dMo_act_132 : decode cMo_act 132 = .ok (.iconst 1, 1) := by decide +kernel
theorem dMo_act_133 : decode cMo_act 133 = .ok (.invokevirtual 133, 3) := by decide +kernel
theorem dMo_act_136 : decode cMo_act 136 = .ok (.ireturn, 1) := by decide +kernel
theorem dMo_act_137 : decode cMo_act 137 = .ok (.iload_n 2, 1) := by decide +kernel
theorem dMo_act_138 : decode cMo_act 138 = .ok (.tableswitch 362 9 25 #[82, 362, 111, 130, 362, 168, 362, 362, 181, 194, 228, 362, 292, 362, 349, 349, 356], 82) := by decide +kernel
theorem dMo_act_220 : decode cMo_act 220 = .ok (.aload_n 0, 1) := by decide +kernel
theorem dMo_act_221 : decode cMo_act 221 = .ok (.getfield 13, 3) := by decide +kernel
theorem dMo_act_224 : decode cMo_act 224 = .ok (.aload_n 0, 1) := by decide +kernel
theorem dMo_act_225 : decode cMo_act 225 = .ok (.getfield 20, 3) := by decide +kernel
theorem dMo_act_228 : decode cMo_act 228 = .ok (.iload_n 1, 1) := by decide +kernel
theorem dMo_act_229 : decode cMo_act 229 = .ok (.iaload, 1) := by decide +kernel
theorem dMo_act_230 : decode cMo_act 230 = .ok (.aload_n 0, 1) := by decide +kernel
theorem dMo_act_231 : decode cMo_act 231 = .ok (.getfield 7, 3) := by decide +kernel
theorem dMo_act_234 : decode cMo_act 234 = .ok (.aload_n 0, 1) := by decide +kernel
theorem dMo_act_235 : decode cMo_act 235 = .ok (.getfield 20, 3) := by decide +kernel
theorem dMo_act_238 : decode cMo_act 238 = .ok (.iload_n 1, 1) := by decide +kernel
theorem dMo_act_239 : decode cMo_act 239 = .ok (.iaload, 1) := by decide +kernel
theorem dMo_act_240 : decode cMo_act 240 = .ok (.iaload, 1) := by decide +kernel
theorem dMo_act_241 : decode cMo_act 241 = .ok (.lload 4, 2) := by decide +kernel
theorem dMo_act_243 : decode cMo_act 243 = .ok (.invokestatic 72, 3) := by decide +kernel
theorem dMo_act_246 : decode cMo_act 246 = .ok (.lastore, 1) := by decide +kernel
theorem dMo_act_247 : decode cMo_act 247 = .ok (.iconst 0, 1) := by decide +kernel
theorem dMo_act_248 : decode cMo_act 248 = .ok (.ireturn, 1) := by decide +kernel
theorem dMo_act_249 : decode cMo_act 249 = .ok (.lload 4, 2) := by decide +kernel
theorem dMo_act_251 : decode cMo_act 251 = .ok (.lconst 0, 1) := by decide +kernel
theorem dMo_act_252 : decode cMo_act 252 = .ok (.lcmp, 1) := by decide +kernel
theorem dMo_act_253 : decode cMo_act 253 = .ok (.ifCond .eq 13, 3) := by decide +kernel
theorem dMo_act_256 : decode cMo_act 256 = .ok (.aload_n 0, 1) := by decide +kernel
theorem dMo_act_257 : decode cMo_act 257 = .ok (.aload_n 0, 1) := by decide +kernel
theorem dMo_act_258 : decode cMo_act 258 = .ok (.getfield 23, 3) := by decide +kernel
theorem dMo_act_261 : decode cMo_act 261 = .ok (.iload_n 1, 1) := by decide +kernel
theorem dMo_act_262 : decode cMo_act 262 = .ok (.iaload, 1) := by decide +kernel
theorem dMo_act_263 : decode cMo_act 263 = .ok (.invokevirtual 129, 3) := by decide +kernel
theorem dMo_act_266 : decode cMo_act 266 = .ok (.iconst 0, 1) := by decide +kernel
theorem dMo_act_267 : decode cMo_act 267 = .ok (.ireturn, 1) := by decide +kernel
theorem dMo_act_268 : decode cMo_act 268 = .ok (.aload_n 0, 1) := by decide +kernel
theorem dMo_act_269 : decode cMo_act 269 = .ok (.lload 4, 2) := by decide +kernel
theorem dMo_act_271 : decode cMo_act 271 = .ok (.lconst 0, 1) := by decide +kernel
theorem dMo_act_272 : decode cMo_act 272 = .ok (.lcmp, 1) := by decide +kernel
theorem dMo_act_273 : decode cMo_act 273 = .ok (.ifCond .eq 17, 3) := by decide +kernel
theorem dMo_act_276 : decode cMo_act 276 = .ok (.aload_n 0, 1) := by decide +kernel
theorem dMo_act_277 : decode cMo_act 277 = .ok (.getfield 20, 3) := by decide +kernel
theorem dMo_act_280 : decode cMo_act 280 = .ok (.aload_n 0, 1) := by decide +kernel
theorem dMo_act_281 : decode cMo_act 281 = .ok (.getfield 23, 3) := by decide +kernel
theorem dMo_act_284 : decode cMo_act 284 = .ok (.iload_n 1, 1) := by decide +kernel
theorem dMo_act_285 : decode cMo_act 285 = .ok (.iaload, 1) := by decide +kernel
theorem dMo_act_286 : decode cMo_act 286 = .ok (.iaload, 1) := by decide +kernel
theorem dMo_act_287 : decode cMo_act 287 = .ok (.goto 14, 3) := by decide +kernel
theorem dMo_act_290 : decode cMo_act 290 = .ok (.aload_n 0, 1) := by decide +kernel
theorem dMo_act_291 : decode cMo_act 291 = .ok (.getfield 23, 3) := by decide +kernel
theorem dMo_act_294 : decode cMo_act 294 = .ok (.aload_n 0, 1) := by decide +kernel
theorem dMo_act_295 : decode cMo_act 295 = .ok (.getfield 23, 3) := by decide +kernel
theorem dMo_act_298 : decode cMo_act 298 = .ok (.iload_n 1, 1) := by decide +kernel
theorem dMo_act_299 : decode cMo_act 299 = .ok (.iaload, 1) := by decide +kernel
theorem dMo_act_300 : decode cMo_act 300 = .ok (.iaload, 1) := by decide +kernel
theorem dMo_act_301 : decode cMo_act 301 = .ok (.invokevirtual 129, 3) := by decide +kernel
theorem dMo_act_304 : decode cMo_act 304 = .ok (.iconst 0, 1) := by decide +kernel
theorem dMo_act_305 : decode cMo_act 305 = .ok (.ireturn, 1) := by decide +kernel
theorem dMo_act_306 : decode cMo_act 306 = .ok (.iload 6, 2) := by decide +kernel
theorem dMo_act_308 : decode cMo_act 308 = .ok (.ifCond .le 9, 3) := by decide +kernel
theorem dMo_act_311 : decode cMo_act 311 = .ok (.aload_n 0, 1) := by decide +kernel
theorem dMo_act_312 : decode cMo_act 312 = .ok (.iload 6, 2) := by decide +kernel
theorem dMo_act_314 : decode cMo_act 314 = .ok (.invokevirtual 129, 3) := by decide +kernel
theorem dMo_act_317 : decode cMo_act 317 = .ok (.iconst 0, 1) := by decide +kernel
theorem dMo_act_318 : decode cMo_act 318 = .ok (.ireturn, 1) := by decide +kernel
theorem dMo_act_319 : decode cMo_act 319 = .ok (.aload_n 0, 1) := by decide +kernel
theorem dMo_act_320 : decode cMo_act 320 = .ok (.aload_n 0, 1) := by decide +kernel
theorem dMo_act_321 : decode cMo_act 321 = .ok (.getfield 20, 3) := by decide +kernel
theorem dMo_act_324 : decode cMo_act 324 = .ok (.iload_n 1, 1) := by decide +kernel
theorem dMo_act_325 : decode cMo_act 325 = .ok (.iaload, 1) := by decide +kernel
theorem dMo_act_326 : decode cMo_act 326 = .ok (.i2l, 1) := by decide +kernel
theorem dMo_act_327 : decode cMo_act 327 = .ok (.invokevirtual 141, 3) := by decide +kernel
theorem dMo_act_330 : decode cMo_act 330 = .ok (.iconst 0, 1) := by decide +kernel
theorem dMo_act_331 : decode cMo_act 331 = .ok (.ireturn, 1) := by decide +kernel
theorem dMo_act_332 : decode cMo_act 332 = .ok (.lload 4, 2) := by decide +kernel
theorem dMo_act_334 : decode cMo_act 334 = .ok (.lconst 1, 1) := by decide +kernel
theorem dMo_act_335 : decode cMo_act 335 = .ok (.lcmp, 1) := by decide +kernel
theorem dMo_act_336 : decode cMo_act 336 = .ok (.ifCond .lt 28, 3) := by decide +kernel
theorem dMo_act_339 : decode cMo_act 339 = .ok (.lload 4, 2) := by decide +kernel
theorem dMo_act_341 : decode cMo_act 341 = .ok (.ldc2_w 145, 3) := by decide +kernel
theorem dMo_act_344 : decode cMo_act 344 = .ok (.lcmp, 1) := by decide +kernel
theorem dMo_act_345 : decode cMo_act 345 = .ok (.ifCond .gt 19, 3) := by decide +kernel
theorem dMo_act_348 : decode cMo_act 348 = .ok (.aload_n 0, 1) := by decide +kernel
theorem dMo_act_349 : decode cMo_act 349 = .ok (.aload_n 0, 1) := by decide +kernel
theorem dMo_act_350 : decode cMo_act 350 = .ok (.getfield 20, 3) := by decide +kernel
theorem dMo_act_353 : decode cMo_act 353 = .ok (.iload_n 1, 1) := by decide +kernel
theorem dMo_act_354 : decode cMo_act 354 = .ok (.iaload, 1) := by decide +kernel
theorem dMo_act_355 : decode cMo_act 355 = .ok (.iconst 1, 1) := by decide +kernel
theorem dMo_act_356 : decode cMo_act 356 = .ok (.isub, 1) := by decide +kernel
theorem dMo_act_357 : decode cMo_act 357 = .ok (.i2l, 1) := by decide +kernel
theorem dMo_act_358 : decode cMo_act 358 = .ok (.lload 4, 2) := by decide +kernel
theorem dMo_act_360 : decode cMo_act 360 = .ok (.ladd, 1) := by decide +kernel
theorem dMo_act_361 : decode cMo_act 361 = .ok (.invokevirtual 141, 3) := by decide +kernel
theorem dMo_act_364 : decode cMo_act 364 = .ok (.iconst 0, 1) := by decide +kernel
theorem dMo_act_365 : decode cMo_act 365 = .ok (.ireturn, 1) := by decide +kernel
theorem dMo_act_366 : decode cMo_act 366 = .ok (.aload_n 0, 1) := by decide +kernel
theorem dMo_act_367 : decode cMo_act 367 = .ok (.getfield 20, 3) := by decide +kernel
theorem dMo_act_370 : decode cMo_act 370 = .ok (.iload_n 1, 1) := by decide +kernel
theorem dMo_act_371 : decode cMo_act 371 = .ok (.iaload, 1) := by decide +kernel
theorem dMo_act_372 : decode cMo_act 372 = .ok (.iconst 1, 1) := by decide +kernel
theorem dMo_act_373 : decode cMo_act 373 = .ok (.if_icmp .ne 50, 3) := by decide +kernel
theorem dMo_act_376 : decode cMo_act 376 = .ok (.aload_n 0, 1) := by decide +kernel
theorem dMo_act_377 : decode cMo_act 377 = .ok (.getfield 122, 3) := by decide +kernel
theorem dMo_act_380 : decode cMo_act 380 = .ok (.aload_n 0, 1) := by decide +kernel
theorem dMo_act_381 : decode cMo_act 381 = .ok (.getfield 97, 3) := by decide +kernel
theorem dMo_act_384 : decode cMo_act 384 = .ok (.if_icmp .ge 39, 3) := by decide +kernel
theorem dMo_act_387 : decode cMo_act 387 = .ok (.aload_n 0, 1) := by decide +kernel
theorem dMo_act_388 : decode cMo_act 388 = .ok (.getfield 38, 3) := by decide +kernel
theorem dMo_act_391 : decode cMo_act 391 = .ok (.aload_n 0, 1) := by decide +kernel
theorem dMo_act_392 : decode cMo_act 392 = .ok (.getfield 122, 3) := by decide +kernel
theorem dMo_act_395 : decode cMo_act 395 = .ok (.iconst 1, 1) := by decide +kernel
theorem dMo_act_396 : decode cMo_act 396 = .ok (.iadd, 1) := by decide +kernel
theorem dMo_act_397 : decode cMo_act 397 = .ok (.iaload, 1) := by decide +kernel
theorem dMo_act_398 : decode cMo_act 398 = .ok (.aload_n 0, 1) := by decide +kernel
theorem dMo_act_399 : decode cMo_act 399 = .ok (.getfield 38, 3) := by decide +kernel
theorem dMo_act_402 : decode cMo_act 402 = .ok (.aload_n 0, 1) := by decide +kernel
theorem dMo_act_403 : decode cMo_act 403 = .ok (.getfield 122, 3) := by decide +kernel
theorem dMo_act_406 : decode cMo_act 406 = .ok (.iaload, 1) := by decide +kernel
theorem dMo_act_407 : decode cMo_act 407 = .ok (.if_icmp .ne 16, 3) := by decide +kernel
theorem dMo_act_410 : decode cMo_act 410 = .ok (.aload_n 0, 1) := by decide +kernel
theorem dMo_act_411 : decode cMo_act 411 = .ok (.dup, 1) := by decide +kernel
theorem dMo_act_412 : decode cMo_act 412 = .ok (.getfield 122, 3) := by decide +kernel
theorem dMo_act_415 : decode cMo_act 415 = .ok (.iconst 1, 1) := by decide +kernel
theorem dMo_act_416 : decode cMo_act 416 = .ok (.iadd, 1) := by decide +kernel
theorem dMo_act_417 : decode cMo_act 417 = .ok (.putfield 122, 3) := by decide +kernel
theorem dMo_act_420 : decode cMo_act 420 = .ok (.goto (-54), 3) := by decide +kernel
theorem dMo_act_423 : decode cMo_act 423 = .ok (.aload_n 0, 1) := by decide +kernel
theorem dMo_act_424 : decode cMo_act 424 = .ok (.iconst 0, 1) := by decide +kernel
theorem dMo_act_425 : decode cMo_act 425 = .ok (.putfield 113, 3) := by decide +kernel
theorem dMo_act_428 : decode cMo_act 428 = .ok (.iconst 0, 1) := by decide +kernel
theorem dMo_act_429 : decode cMo_act 429 = .ok (.ireturn, 1) := by decide +kernel
theorem dMo_act_430 : decode cMo_act 430 = .ok (.aload_n 0, 1) := by decide +kernel
theorem dMo_act_431 : decode cMo_act 431 = .ok (.getfield 113, 3) := by decide +kernel
theorem dMo_act_434 : decode cMo_act 434 = .ok (.ifCond .le 30, 3) := by decide +kernel
theorem dMo_act_437 : decode cMo_act 437 = .ok (.aload_n 0, 1) := by decide +kernel
theorem dMo_act_438 : decode cMo_act 438 = .ok (.getfield 41, 3) := by decide +kernel
theorem dMo_act_441 : decode cMo_act 441 = .ok (.aload_n 0, 1) := by decide +kernel
theorem dMo_act_442 : decode cMo_act 442 = .ok (.getfield 113, 3) := by decide +kernel
theorem dMo_act_445 : decode cMo_act 445 = .ok (.iconst 1, 1) := by decide +kernel
theorem dMo_act_446 : decode cMo_act 446 = .ok (.isub, 1) := by decide +kernel
theorem dMo_act_447 : decode cMo_act 447 = .ok (.iaload, 1) := by decide +kernel
theorem dMo_act_448 : decode cMo_act 448 = .ok (.ifCond .le 16, 3) := by decide +kernel
theorem dMo_act_451 : decode cMo_act 451 = .ok (.aload_n 0, 1) := by decide +kernel
theorem dMo_act_452 : decode cMo_act 452 = .ok (.dup, 1) := by decide +kernel
theorem dMo_act_453 : decode cMo_act 453 = .ok (.getfield 113, 3) := by decide +kernel
theorem dMo_act_456 : decode cMo_act 456 = .ok (.iconst 1, 1) := by decide +kernel
theorem dMo_act_457 : decode cMo_act 457 = .ok (.isub, 1) := by decide +kernel
theorem dMo_act_458 : decode cMo_act 458 = .ok (.putfield 113, 3) := by decide +kernel
theorem dMo_act_461 : decode cMo_act 461 = .ok (.goto (-31), 3) := by decide +kernel
theorem dMo_act_464 : decode cMo_act 464 = .ok (.aload_n 0, 1) := by decide +kernel
theorem dMo_act_465 : decode cMo_act 465 = .ok (.dup, 1) := by decide +kernel
theorem dMo_act_466 : decode cMo_act 466 = .ok (.getfield 113, 3) := by decide +kernel
theorem dMo_act_469 : decode cMo_act 469 = .ok (.aload_n 0, 1) := by decide +kernel
theorem dMo_act_470 : decode cMo_act 470 = .ok (.getfield 113, 3) := by decide +kernel
theorem dMo_act_473 : decode cMo_act 473 = .ok (.ifCond .le 7, 3) := by decide +kernel
theorem dMo_act_476 : decode cMo_act 476 = .ok (.iconst 1, 1) := by decide +kernel
theorem dMo_act_477 : decode cMo_act 477 = .ok (.goto 4, 3) := by decide +kernel
theorem dMo_act_480 : decode cMo_act 480 = .ok (.iconst 0, 1) := by decide +kernel
theorem dMo_act_481 : decode cMo_act 481 = .ok (.isub, 1) := by decide +kernel
theorem dMo_act_482 : decode cMo_act 482 = .ok (.putfield 113, 3) := by decide +kernel
theorem dMo_act_485 : decode cMo_act 485 = .ok (.iconst 0, 1) := by decide +kernel
theorem dMo_act_486 : decode cMo_act 486 = .ok (.ireturn, 1) := by decide +kernel
theorem dMo_act_487 : decode cMo_act 487 = .ok (.aload_n 0, 1) := by decide +kernel
theorem dMo_act_488 : decode cMo_act 488 = .ok (.lload 4, 2) := by decide +kernel
theorem dMo_act_490 : decode cMo_act 490 = .ok (.invokevirtual 147, 3) := by decide +kernel
theorem dMo_act_493 : decode cMo_act 493 = .ok (.ireturn, 1) := by decide +kernel
theorem dMo_act_494 : decode cMo_act 494 = .ok (.aload_n 0, 1) := by decide +kernel
theorem dMo_act_495 : decode cMo_act 495 = .ok (.iload_n 1, 1) := by decide +kernel
theorem dMo_act_496 : decode cMo_act 496 = .ok (.invokevirtual 151, 3) := by decide +kernel
theorem dMo_act_499 : decode cMo_act 499 = .ok (.ireturn, 1) := by decide +kernel
theorem dMo_act_500 : decode cMo_act 500 = .ok (.iconst 0, 1) := by decide +kernel
theorem dMo_act_501 : decode cMo_act 501 = .ok (.ireturn, 1) := by decide +kernel
abbrev cMo_walk : ByteArray := prog_11_method_23_code
def yMo_walk : MethodName := ⟨RMo, "walk", "(J)I"⟩
def wsMo_walk : List Cond := .code yMo_walk cMo_walk 7 (some .int) :: TB
theorem dMo_walk_0 : decode cMo_walk 0 = .ok (.lload_n 1, 1) := by decide +kernel
theorem dMo_walk_1 : decode cMo_walk 1 = .ok (.lstore_n 3, 1) := by decide +kernel
theorem dMo_walk_2 : decode cMo_walk 2 = .ok (.iconst 0, 1) := by decide +kernel
theorem dMo_walk_3 : decode cMo_walk 3 = .ok (.istore 5, 2) := by decide +kernel
theorem dMo_walk_5 : decode cMo_walk 5 = .ok (.aload_n 0, 1) := by decide +kernel
theorem dMo_walk_6 : decode cMo_walk 6 = .ok (.iconst 0, 1) := by decide +kernel
theorem dMo_walk_7 : decode cMo_walk 7 = .ok (.putfield 154, 3) := by decide +kernel
theorem dMo_walk_10 : decode cMo_walk 10 = .ok (.aload_n 0, 1) := by decide +kernel
theorem dMo_walk_11 : decode cMo_walk 11 = .ok (.iconst 0, 1) := by decide +kernel
theorem dMo_walk_12 : decode cMo_walk 12 = .ok (.putfield 157, 3) := by decide +kernel
theorem dMo_walk_15 : decode cMo_walk 15 = .ok (.iload 5, 2) := by decide +kernel
theorem dMo_walk_17 : decode cMo_walk 17 = .ok (.ifCond .ne 265, 3) := by decide +kernel
theorem dMo_walk_20 : decode cMo_walk 20 = .ok (.aload_n 0, 1) := by decide +kernel
theorem dMo_walk_21 : decode cMo_walk 21 = .ok (.getfield 113, 3) := by decide +kernel
theorem dMo_walk_24 : decode cMo_walk 24 = .ok (.ifCond .ne 7, 3) := by decide +kernel
theorem dMo_walk_27 : decode cMo_walk 27 = .ok (.iconst 0, 1) := by decide +kernel
theorem dMo_walk_28 : decode cMo_walk 28 = .ok (.goto 14, 3) := by decide +kernel
theorem dMo_walk_31 : decode cMo_walk 31 = .ok (.aload_n 0, 1) := by decide +kernel
theorem dMo_walk_32 : decode cMo_walk 32 = .ok (.getfield 41, 3) := by decide +kernel
theorem dMo_walk_35 : decode cMo_walk 35 = .ok (.aload_n 0, 1) := by decide +kernel
theorem dMo_walk_36 : decode cMo_walk 36 = .ok (.getfield 113, 3) := by decide +kernel
theorem dMo_walk_39 : decode cMo_walk 39 = .ok (.iconst 1, 1) := by decide +kernel
theorem dMo_walk_40 : decode cMo_walk 40 = .ok (.isub, 1) := by decide +kernel
theorem dMo_walk_41 : decode cMo_walk 41 = .ok (.iaload, 1) := by decide +kernel
theorem dMo_walk_42 : decode cMo_walk 42 = .ok (.istore 6, 2) := by decide +kernel
theorem dMo_walk_44 : decode cMo_walk 44 = .ok (.iload 6, 2) := by decide +kernel
theorem dMo_walk_46 : decode cMo_walk 46 = .ok (.ifCond .ne 58, 3) := by decide +kernel
theorem dMo_walk_49 : decode cMo_walk 49 = .ok (.aload_n 0, 1) := by decide +kernel
theorem dMo_walk_50 : decode cMo_walk 50 = .ok (.getfield 122, 3) := by decide +kernel
theorem dMo_walk_53 : decode cMo_walk 53 = .ok (.aload_n 0, 1) := by decide +kernel
theorem dMo_walk_54 : decode cMo_walk 54 = .ok (.getfield 97, 3) := by decide +kernel
theorem dMo_walk_57 : decode cMo_walk 57 = .ok (.if_icmp .ne 9, 3) := by decide +kernel
theorem dMo_walk_60 : decode cMo_walk 60 = .ok (.aload_n 0, 1) := by decide +kernel
theorem dMo_walk_61 : decode cMo_walk 61 = .ok (.lconst 0, 1) := by decide +kernel
theorem dMo_walk_62 : decode cMo_walk 62 = .ok (.invokevirtual 147, 3) := by decide +kernel
theorem dMo_walk_65 : decode cMo_walk 65 = .ok (.ireturn, 1) := by decide +kernel
theorem dMo_walk_66 : decode cMo_walk 66 = .ok (.aload_n 0, 1) := by decide +kernel
theorem dMo_walk_67 : decode cMo_walk 67 = .ok (.dup, 1) := by decide +kernel
theorem dMo_walk_68 : decode cMo_walk 68 = .ok (.getfield 122, 3) := by decide +kernel
theorem dMo_walk_71 : decode cMo_walk 71 = .ok (.iconst 1, 1) := by decide +kernel
theorem dMo_walk_72 : decode cMo_walk 72 = .ok (.iadd, 1) := by decide +kernel
theorem dMo_walk_73 : decode cMo_walk 73 = .ok (.putfield 122, 3) := by decide +kernel
theorem dMo_walk_76 : decode cMo_walk 76 = .ok (.aload_n 0, 1) := by decide +kernel
theorem dMo_walk_77 : decode cMo_walk 77 = .ok (.getfield 35, 3) := by decide +kernel
theorem dMo_walk_80 : decode cMo_walk 80 = .ok (.aload_n 0, 1) := by decide +kernel
theorem dMo_walk_81 : decode cMo_walk 81 = .ok (.getfield 122, 3) := by decide +kernel
theorem dMo_walk_84 : decode cMo_walk 84 = .ok (.iaload, 1) := by decide +kernel
theorem dMo_walk_85 : decode cMo_walk 85 = .ok (.ifCond .le 194, 3) := by decide +kernel
theorem dMo_walk_88 : decode cMo_walk 88 = .ok (.aload_n 0, 1) := by decide +kernel
theorem dMo_walk_89 : decode cMo_walk 89 = .ok (.aload_n 0, 1) := by decide +kernel
theorem dMo_walk_90 : decode cMo_walk 90 = .ok (.getfield 35, 3) := by decide +kernel
theorem dMo_walk_93 : decode cMo_walk 93 = .ok (.aload_n 0, 1) := by decide +kernel
theorem dMo_walk_94 : decode cMo_walk 94 = .ok (.getfield 122, 3) := by decide +kernel
theorem dMo_walk_97 : decode cMo_walk 97 = .ok (.iaload, 1) := by decide +kernel
theorem dMo_walk_98 : decode cMo_walk 98 = .ok (.invokevirtual 129, 3) := by decide +kernel
theorem dMo_walk_101 : decode cMo_walk 101 = .ok (.goto 178, 3) := by decide +kernel
theorem dMo_walk_104 : decode cMo_walk 104 = .ok (.iload 6, 2) := by decide +kernel
theorem dMo_walk_106 : decode cMo_walk 106 = .ok (.ifCond .ge 16, 3) := by decide +kernel
theorem dMo_walk_109 : decode cMo_walk 109 = .ok (.aload_n 0, 1) := by decide +kernel
theorem dMo_walk_110 : decode cMo_walk 110 = .ok (.dup, 1) := by decide +kernel
theorem dMo_walk_111 : decode cMo_walk 111 = .ok (.getfield 113, 3) := by decide +kernel
theorem dMo_walk_114 : decode cMo_walk 114 = .ok (.iconst 1, 1) := by decide +kernel
theorem dMo_walk_115 : decode cMo_walk 115 = .ok (.isub, 1) := by decide +kernel
theorem dMo_walk_116 : decode cMo_walk 116 = .ok (.putfield 113, 3) := by decide +kernel
theorem dMo_walk_119 : decode cMo_walk 119 = .ok (.goto 160, 3) := by decide +kernel
theorem dMo_walk_122 : decode cMo_walk 122 = .ok (.aload_n 0, 1) := by decide +kernel
theorem dMo_walk_123 : decode cMo_walk 123 = .ok (.getfield 17, 3) := by decide +kernel
theorem dMo_walk_126 : decode cMo_walk 126 = .ok (.iload 6, 2) := by decide +kernel
theorem dMo_walk_128 : decode cMo_walk 128 = .ok (.iaload, 1) := by decide +kernel
theorem dMo_walk_129 : decode cMo_walk 129 = .ok (.bipush 10, 2) := by decide +kernel
theorem dMo_walk_131 : decode cMo_walk 131 = .ok (.if_icmp .ne 35, 3) := by decide +kernel
theorem dMo_walk_134 : decode cMo_walk 134 = .ok (.aload_n 0, 1) := by decide +kernel
theorem dMo_walk_135 : decode cMo_walk 135 = .ok (.getfield 41, 3) := by decide +kernel
theorem dMo_walk_138 : decode cMo_walk 138 = .ok (.aload_n 0, 1) := by decide +kernel
theorem dMo_walk_139 : decode cMo_walk 139 = .ok (.getfield 113, 3) := by decide +kernel
theorem dMo_walk_142 : decode cMo_walk 142 = .ok (.iconst 1, 1) := by decide +kernel
theorem dMo_walk_143 : decode cMo_walk 143 = .ok (.isub, 1) := by decide +kernel
theorem dMo_walk_144 : decode cMo_walk 144 = .ok (.aload_n 0, 1) := by decide +kernel
theorem dMo_walk_145 : decode cMo_walk 145 = .ok (.getfield 23, 3) := by decide +kernel
theorem dMo_walk_148 : decode cMo_walk 148 = .ok (.iload 6, 2) := by decide +kernel
theorem dMo_walk_150 : decode cMo_walk 150 = .ok (.iaload, 1) := by decide +kernel
theorem dMo_walk_151 : decode cMo_walk 151 = .ok (.iastore, 1) := by decide +kernel
theorem dMo_walk_152 : decode cMo_walk 152 = .ok (.aload_n 0, 1) := by decide +kernel
theorem dMo_walk_153 : decode cMo_walk 153 = .ok (.aload_n 0, 1) := by decide +kernel
theorem dMo_walk_154 : decode cMo_walk 154 = .ok (.getfield 20, 3) := by decide +kernel
theorem dMo_walk_157 : decode cMo_walk 157 = .ok (.iload 6, 2) := by decide +kernel
theorem dMo_walk_159 : decode cMo_walk 159 = .ok (.iaload, 1) := by decide +kernel
theorem dMo_walk_160 : decode cMo_walk 160 = .ok (.invokevirtual 129, 3) := by decide +kernel
theorem dMo_walk_163 : decode cMo_walk 163 = .ok (.goto 116, 3) := by decide +kernel
theorem dMo_walk_166 : decode cMo_walk 166 = .ok (.aload_n 0, 1) := by decide +kernel
theorem dMo_walk_167 : decode cMo_walk 167 = .ok (.getfield 17, 3) := by decide +kernel
theorem dMo_walk_170 : decode cMo_walk 170 = .ok (.iload 6, 2) := by decide +kernel
theorem dMo_walk_172 : decode cMo_walk 172 = .ok (.iaload, 1) := by decide +kernel
theorem dMo_walk_173 : decode cMo_walk 173 = .ok (.bipush 22, 2) := by decide +kernel
theorem dMo_walk_175 : decode cMo_walk 175 = .ok (.if_icmp .ne 32, 3) := by decide +kernel
theorem dMo_walk_178 : decode cMo_walk 178 = .ok (.aload_n 0, 1) := by decide +kernel
theorem dMo_walk_179 : decode cMo_walk 179 = .ok (.getfield 41, 3) := by decide +kernel
theorem dMo_walk_182 : decode cMo_walk 182 = .ok (.aload_n 0, 1) := by decide +kernel
theorem dMo_walk_183 : decode cMo_walk 183 = .ok (.getfield 113, 3) := by decide +kernel
theorem dMo_walk_186 : decode cMo_walk 186 = .ok (.iconst 1, 1) := by decide +kernel
theorem dMo_walk_187 : decode cMo_walk 187 = .ok (.isub, 1) := by decide +kernel
theorem dMo_walk_188 : decode cMo_walk 188 = .ok (.iconst 0, 1) := by decide +kernel
theorem dMo_walk_189 : decode cMo_walk 189 = .ok (.iload 6, 2) := by decide +kernel
theorem dMo_walk_191 : decode cMo_walk 191 = .ok (.isub, 1) := by decide +kernel
theorem dMo_walk_192 : decode cMo_walk 192 = .ok (.iastore, 1) := by decide +kernel
theorem dMo_walk_193 : decode cMo_walk 193 = .ok (.aload_n 0, 1) := by decide +kernel
theorem dMo_walk_194 : decode cMo_walk 194 = .ok (.aload_n 0, 1) := by decide +kernel
theorem dMo_walk_195 : decode cMo_walk 195 = .ok (.getfield 20, 3) := by decide +kernel
theorem dMo_walk_198 : decode cMo_walk 198 = .ok (.iload 6, 2) := by decide +kernel
theorem dMo_walk_200 : decode cMo_walk 200 = .ok (.iaload, 1) := by decide +kernel
theorem dMo_walk_201 : decode cMo_walk 201 = .ok (.invokevirtual 129, 3) := by decide +kernel
theorem dMo_walk_204 : decode cMo_walk 204 = .ok (.goto 75, 3) := by decide +kernel
theorem dMo_walk_207 : decode cMo_walk 207 = .ok (.lload_n 3, 1) := by decide +kernel
theorem dMo_walk_208 : decode cMo_walk 208 = .ok (.lconst 0, 1) := by decide +kernel
theorem dMo_walk_209 : decode cMo_walk 209 = .ok (.lcmp, 1) := by decide +kernel
theorem dMo_walk_210 : decode cMo_walk 210 = .ok (.ifCond .ne 16, 3) := by decide +kernel
theorem dMo_walk_213 : decode cMo_walk 213 = .ok (.aload_n 0, 1) := by decide +kernel
theorem dMo_walk_214 : decode cMo_walk 214 = .ok (.iconst 1, 1) := by decide +kernel
theorem dMo_walk_215 : decode cMo_walk 215 = .ok (.putfield 154, 3) := by decide +kernel
theorem dMo_walk_218 : decode cMo_walk 218 = .ok (.aload_n 0, 1) := by decide +kernel
theorem dMo_walk_219 : decode cMo_walk 219 = .ok (.iload 6, 2) := by decide +kernel
theorem dMo_walk_221 : decode cMo_walk 221 = .ok (.putfield 157, 3) := by decide +kernel
theorem dMo_walk_224 : decode cMo_walk 224 = .ok (.iconst 0, 1) := by decide +kernel
theorem dMo_walk_225 : decode cMo_walk 225 = .ok (.ireturn, 1) := by decide +kernel
theorem dMo_walk_226 : decode cMo_walk 226 = .ok (.lload_n 3, 1) := by decide +kernel
theorem dMo_walk_227 : decode cMo_walk 227 = .ok (.lconst 1, 1) := by decide +kernel
theorem dMo_walk_228 : decode cMo_walk 228 = .ok (.lsub, 1) := by decide +kernel
theorem dMo_walk_229 : decode cMo_walk 229 = .ok (.lstore_n 3, 1) := by decide +kernel
theorem dMo_walk_230 : decode cMo_walk 230 = .ok (.aload_n 0, 1) := by decide +kernel
theorem dMo_walk_231 : decode cMo_walk 231 = .ok (.dup, 1) := by decide +kernel
theorem dMo_walk_232 : decode cMo_walk 232 = .ok (.getfield 113, 3) := by decide +kernel
theorem dMo_walk_235 : decode cMo_walk 235 = .ok (.iconst 1, 1) := by decide +kernel
theorem dMo_walk_236 : decode cMo_walk 236 = .ok (.isub, 1) := by decide +kernel
theorem dMo_walk_237 : decode cMo_walk 237 = .ok (.putfield 113, 3) := by decide +kernel
theorem dMo_walk_240 : decode cMo_walk 240 = .ok (.aload_n 0, 1) := by decide +kernel
theorem dMo_walk_241 : decode cMo_walk 241 = .ok (.getfield 160, 3) := by decide +kernel
theorem dMo_walk_244 : decode cMo_walk 244 = .ok (.sipush 1000, 3) := by decide +kernel
theorem dMo_walk_247 : decode cMo_walk 247 = .ok (.if_icmp .ge 14, 3) := by decide +kernel
theorem dMo_walk_250 : decode cMo_walk 250 = .ok (.aload_n 0, 1) := by decide +kernel
theorem dMo_walk_251 : decode cMo_walk 251 = .ok (.getfield 44, 3) := by decide +kernel
theorem dMo_walk_254 : decode cMo_walk 254 = .ok (.aload_n 0, 1) := by decide +kernel
theorem dMo_walk_255 : decode cMo_walk 255 = .ok (.getfield 160, 3) := by decide +kernel
theorem dMo_walk_258 : decode cMo_walk 258 = .ok (.iload 6, 2) := by decide +kernel
theorem dMo_walk_260 : decode cMo_walk 260 = .ok (.iastore, 1) := by decide +kernel
theorem dMo_walk_261 : decode cMo_walk 261 = .ok (.aload_n 0, 1) := by decide +kernel
theorem dMo_walk_262 : decode cMo_walk 262 = .ok (.dup, 1) := by decide +kernel
theorem dMo_walk_263 : decode cMo_walk 263 = .ok (.getfield 160, 3) := by decide +kernel
theorem dMo_walk_266 : decode cMo_walk 266 = .ok (.iconst 1, 1) := by decide +kernel
theorem dMo_walk_267 : decode cMo_walk 267 = .ok (.iadd, 1) := by decide +kernel
theorem dMo_walk_268 : decode cMo_walk 268 = .ok (.putfield 160, 3) := by decide +kernel
theorem dMo_walk_271 : decode cMo_walk 271 = .ok (.aload_n 0, 1) := by decide +kernel
theorem dMo_walk_272 : decode cMo_walk 272 = .ok (.iload 6, 2) := by decide +kernel
theorem dMo_walk_274 : decode cMo_walk 274 = .ok (.invokevirtual 163, 3) := by decide +kernel
theorem dMo_walk_277 : decode cMo_walk 277 = .ok (.istore 5, 2) := by decide +kernel
theorem dMo_walk_279 : decode cMo_walk 279 = .ok (.goto (-264), 3) := by decide +kernel
theorem dMo_walk_282 : decode cMo_walk 282 = .ok (.iload 5, 2) := by decide +kernel
theorem dMo_walk_284 : decode cMo_walk 284 = .ok (.ireturn, 1) := by decide +kernel
abbrev cMo_run : ByteArray := prog_11_method_24_code
def yMo_run : MethodName := ⟨RMo, "run", "(I)I"⟩
def wsMo_run : List Cond := .code yMo_run cMo_run 2 (some .int) :: TB
theorem dMo_run_0 : decode cMo_run 0 = .ok (.aload_n 0, 1) := by decide +kernel
theorem dMo_run_1 : decode cMo_run 1 = .ok (.iconst 0, 1) := by decide +kernel
theorem dMo_run_2 : decode cMo_run 2 = .ok (.putfield 63, 3) := by decide +kernel
theorem dMo_run_5 : decode cMo_run 5 = .ok (.iload_n 1, 1) := by decide +kernel
theorem dMo_run_6 : decode cMo_run 6 = .ok (.iconst 1, 1) := by decide +kernel
theorem dMo_run_7 : decode cMo_run 7 = .ok (.if_icmp .lt 11, 3) := by decide +kernel
theorem dMo_run_10 : decode cMo_run 10 = .ok (.iload_n 1, 1) := by decide +kernel
theorem dMo_run_11 : decode cMo_run 11 = .ok (.aload_n 0, 1) := by decide +kernel
theorem dMo_run_12 : decode cMo_run 12 = .ok (.getfield 97, 3) := by decide +kernel
theorem dMo_run_15 : decode cMo_run 15 = .ok (.if_icmp .le 6, 3) := by decide +kernel
theorem dMo_run_18 : decode cMo_run 18 = .ok (.bipush (-2), 2) := by decide +kernel
theorem dMo_run_20 : decode cMo_run 20 = .ok (.ireturn, 1) := by decide +kernel
theorem dMo_run_21 : decode cMo_run 21 = .ok (.aload_n 0, 1) := by decide +kernel
theorem dMo_run_22 : decode cMo_run 22 = .ok (.iload_n 1, 1) := by decide +kernel
theorem dMo_run_23 : decode cMo_run 23 = .ok (.iconst 1, 1) := by decide +kernel
theorem dMo_run_24 : decode cMo_run 24 = .ok (.isub, 1) := by decide +kernel
theorem dMo_run_25 : decode cMo_run 25 = .ok (.putfield 122, 3) := by decide +kernel
theorem dMo_run_28 : decode cMo_run 28 = .ok (.aload_n 0, 1) := by decide +kernel
theorem dMo_run_29 : decode cMo_run 29 = .ok (.iconst 0, 1) := by decide +kernel
theorem dMo_run_30 : decode cMo_run 30 = .ok (.putfield 113, 3) := by decide +kernel
theorem dMo_run_33 : decode cMo_run 33 = .ok (.aload_n 0, 1) := by decide +kernel
theorem dMo_run_34 : decode cMo_run 34 = .ok (.iconst 0, 1) := by decide +kernel
theorem dMo_run_35 : decode cMo_run 35 = .ok (.putfield 160, 3) := by decide +kernel
theorem dMo_run_38 : decode cMo_run 38 = .ok (.aload_n 0, 1) := by decide +kernel
theorem dMo_run_39 : decode cMo_run 39 = .ok (.iconst 0, 1) := by decide +kernel
theorem dMo_run_40 : decode cMo_run 40 = .ok (.putfield 119, 3) := by decide +kernel
theorem dMo_run_43 : decode cMo_run 43 = .ok (.aload_n 0, 1) := by decide +kernel
theorem dMo_run_44 : decode cMo_run 44 = .ok (.aload_n 0, 1) := by decide +kernel
theorem dMo_run_45 : decode cMo_run 45 = .ok (.getfield 57, 3) := by decide +kernel
theorem dMo_run_48 : decode cMo_run 48 = .ok (.invokevirtual 166, 3) := by decide +kernel
theorem dMo_run_51 : decode cMo_run 51 = .ok (.ireturn, 1) := by decide +kernel
abbrev cMo_goOn : ByteArray := prog_11_method_25_code
def yMo_goOn : MethodName := ⟨RMo, "goOn", "(J)I"⟩
def wsMo_goOn : List Cond := .code yMo_goOn cMo_goOn 3 (some .int) :: TB
theorem dMo_goOn_0 : decode cMo_goOn 0 = .ok (.aload_n 0, 1) := by decide +kernel
theorem dMo_goOn_1 : decode cMo_goOn 1 = .ok (.iconst 0, 1) := by decide +kernel
theorem dMo_goOn_2 : decode cMo_goOn 2 = .ok (.putfield 63, 3) := by decide +kernel
theorem dMo_goOn_5 : decode cMo_goOn 5 = .ok (.aload_n 0, 1) := by decide +kernel
theorem dMo_goOn_6 : decode cMo_goOn 6 = .ok (.getfield 154, 3) := by decide +kernel
theorem dMo_goOn_9 : decode cMo_goOn 9 = .ok (.ifCond .eq 14, 3) := by decide +kernel
theorem dMo_goOn_12 : decode cMo_goOn 12 = .ok (.aload_n 0, 1) := by decide +kernel
theorem dMo_goOn_13 : decode cMo_goOn 13 = .ok (.lload_n 1, 1) := by decide +kernel
theorem dMo_goOn_14 : decode cMo_goOn 14 = .ok (.invokestatic 53, 3) := by decide +kernel
theorem dMo_goOn_17 : decode cMo_goOn 17 = .ok (.invokevirtual 166, 3) := by decide +kernel
theorem dMo_goOn_20 : decode cMo_goOn 20 = .ok (.goto 5, 3) := by decide +kernel
theorem dMo_goOn_23 : decode cMo_goOn 23 = .ok (.bipush (-5), 2) := by decide +kernel
theorem dMo_goOn_25 : decode cMo_goOn 25 = .ok (.ireturn, 1) := by decide +kernel
abbrev cMo_get : ByteArray := prog_11_method_26_code
def yMo_get : MethodName := ⟨RMo, "get", "(I)J"⟩
def wsMo_get : List Cond := .code yMo_get cMo_get 2 (some .long) :: TB
theorem dMo_get_0 : decode cMo_get 0 = .ok (.aload_n 0, 1) := by decide +kernel
theorem dMo_get_1 : decode cMo_get 1 = .ok (.aload_n 0, 1) := by decide +kernel
theorem dMo_get_2 : decode cMo_get 2 = .ok (.iload_n 1, 1) := by decide +kernel
theorem dMo_get_3 : decode cMo_get 3 = .ok (.invokevirtual 79, 3) := by decide +kernel
theorem dMo_get_6 : decode cMo_get 6 = .ok (.ifCond .eq 7, 3) := by decide +kernel
theorem dMo_get_9 : decode cMo_get 9 = .ok (.iconst 0, 1) := by decide +kernel
theorem dMo_get_10 : decode cMo_get 10 = .ok (.goto 4, 3) := by decide +kernel
theorem dMo_get_13 : decode cMo_get 13 = .ok (.iconst 1, 1) := by decide +kernel
theorem dMo_get_14 : decode cMo_get 14 = .ok (.putfield 63, 3) := by decide +kernel
theorem dMo_get_17 : decode cMo_get 17 = .ok (.aload_n 0, 1) := by decide +kernel
theorem dMo_get_18 : decode cMo_get 18 = .ok (.getfield 63, 3) := by decide +kernel
theorem dMo_get_21 : decode cMo_get 21 = .ok (.ifCond .ne 12, 3) := by decide +kernel
theorem dMo_get_24 : decode cMo_get 24 = .ok (.aload_n 0, 1) := by decide +kernel
theorem dMo_get_25 : decode cMo_get 25 = .ok (.getfield 13, 3) := by decide +kernel
theorem dMo_get_28 : decode cMo_get 28 = .ok (.iload_n 1, 1) := by decide +kernel
theorem dMo_get_29 : decode cMo_get 29 = .ok (.laload, 1) := by decide +kernel
theorem dMo_get_30 : decode cMo_get 30 = .ok (.goto 4, 3) := by decide +kernel
theorem dMo_get_33 : decode cMo_get 33 = .ok (.lconst 0, 1) := by decide +kernel
theorem dMo_get_34 : decode cMo_get 34 = .ok (.lreturn, 1) := by decide +kernel
abbrev cMo_order : ByteArray := prog_11_method_27_code
def yMo_order : MethodName := ⟨RMo, "order", "(I)I"⟩
def wsMo_order : List Cond := .code yMo_order cMo_order 2 (some .int) :: TB
theorem dMo_order_0 : decode cMo_order 0 = .ok (.aload_n 0, 1) := by decide +kernel
theorem dMo_order_1 : decode cMo_order 1 = .ok (.iconst 0, 1) := by decide +kernel
theorem dMo_order_2 : decode cMo_order 2 = .ok (.putfield 63, 3) := by decide +kernel
theorem dMo_order_5 : decode cMo_order 5 = .ok (.iload_n 1, 1) := by decide +kernel
theorem dMo_order_6 : decode cMo_order 6 = .ok (.ifCond .lt 27, 3) := by decide +kernel
theorem dMo_order_9 : decode cMo_order 9 = .ok (.iload_n 1, 1) := by decide +kernel
theorem dMo_order_10 : decode cMo_order 10 = .ok (.aload_n 0, 1) := by decide +kernel
theorem dMo_order_11 : decode cMo_order 11 = .ok (.getfield 160, 3) := by decide +kernel
theorem dMo_order_14 : decode cMo_order 14 = .ok (.if_icmp .ge 19, 3) := by decide +kernel
theorem dMo_order_17 : decode cMo_order 17 = .ok (.iload_n 1, 1) := by decide +kernel
theorem dMo_order_18 : decode cMo_order 18 = .ok (.sipush 1000, 3) := by decide +kernel
theorem dMo_order_21 : decode cMo_order 21 = .ok (.if_icmp .ge 12, 3) := by decide +kernel
theorem dMo_order_24 : decode cMo_order 24 = .ok (.aload_n 0, 1) := by decide +kernel
theorem dMo_order_25 : decode cMo_order 25 = .ok (.getfield 44, 3) := by decide +kernel
theorem dMo_order_28 : decode cMo_order 28 = .ok (.iload_n 1, 1) := by decide +kernel
theorem dMo_order_29 : decode cMo_order 29 = .ok (.iaload, 1) := by decide +kernel
theorem dMo_order_30 : decode cMo_order 30 = .ok (.goto 4, 3) := by decide +kernel
theorem dMo_order_33 : decode cMo_order 33 = .ok (.iconst 0, 1) := by decide +kernel
theorem dMo_order_34 : decode cMo_order 34 = .ok (.ireturn, 1) := by decide +kernel
abbrev cMo_second : ByteArray := prog_11_method_28_code
def yMo_second : MethodName := ⟨RMo, "second", "(I)I"⟩
def wsMo_second : List Cond := .code yMo_second cMo_second 2 (some .int) :: TB
theorem dMo_second_0 : decode cMo_second 0 = .ok (.aload_n 0, 1) := by decide +kernel
theorem dMo_second_1 : decode cMo_second 1 = .ok (.iconst 0, 1) := by decide +kernel
theorem dMo_second_2 : decode cMo_second 2 = .ok (.putfield 63, 3) := by decide +kernel
theorem dMo_second_5 : decode cMo_second 5 = .ok (.iload_n 1, 1) := by decide +kernel
theorem dMo_second_6 : decode cMo_second 6 = .ok (.iconst 1, 1) := by decide +kernel
theorem dMo_second_7 : decode cMo_second 7 = .ok (.if_icmp .lt 11, 3) := by decide +kernel
theorem dMo_second_10 : decode cMo_second 10 = .ok (.iload_n 1, 1) := by decide +kernel
theorem dMo_second_11 : decode cMo_second 11 = .ok (.aload_n 0, 1) := by decide +kernel
theorem dMo_second_12 : decode cMo_second 12 = .ok (.getfield 97, 3) := by decide +kernel
theorem dMo_second_15 : decode cMo_second 15 = .ok (.if_icmp .le 8, 3) := by decide +kernel
theorem dMo_second_18 : decode cMo_second 18 = .ok (.bipush (-2), 2) := by decide +kernel
theorem dMo_second_20 : decode cMo_second 20 = .ok (.goto 4, 3) := by decide +kernel
theorem dMo_second_23 : decode cMo_second 23 = .ok (.iconst 1, 1) := by decide +kernel
theorem dMo_second_24 : decode cMo_second 24 = .ok (.ireturn, 1) := by decide +kernel
abbrev cMo_place : ByteArray := prog_11_method_29_code
def yMo_place : MethodName := ⟨RMo, "place", "()I"⟩
def wsMo_place : List Cond := .code yMo_place cMo_place 1 (some .int) :: TB
theorem dMo_place_0 : decode cMo_place 0 = .ok (.aload_n 0, 1) := by decide +kernel
theorem dMo_place_1 : decode cMo_place 1 = .ok (.iconst 0, 1) := by decide +kernel
theorem dMo_place_2 : decode cMo_place 2 = .ok (.putfield 63, 3) := by decide +kernel
theorem dMo_place_5 : decode cMo_place 5 = .ok (.aload_n 0, 1) := by decide +kernel
theorem dMo_place_6 : decode cMo_place 6 = .ok (.getfield 157, 3) := by decide +kernel
theorem dMo_place_9 : decode cMo_place 9 = .ok (.ireturn, 1) := by decide +kernel
abbrev cMo_raised : ByteArray := prog_11_method_30_code
def yMo_raised : MethodName := ⟨RMo, "raised", "()I"⟩
def wsMo_raised : List Cond := .code yMo_raised cMo_raised 1 (some .int) :: TB
theorem dMo_raised_0 : decode cMo_raised 0 = .ok (.aload_n 0, 1) := by decide +kernel
theorem dMo_raised_1 : decode cMo_raised 1 = .ok (.iconst 0, 1) := by decide +kernel
theorem dMo_raised_2 : decode cMo_raised 2 = .ok (.putfield 63, 3) := by decide +kernel
theorem dMo_raised_5 : decode cMo_raised 5 = .ok (.aload_n 0, 1) := by decide +kernel
theorem dMo_raised_6 : decode cMo_raised 6 = .ok (.getfield 119, 3) := by decide +kernel
theorem dMo_raised_9 : decode cMo_raised 9 = .ok (.ireturn, 1) := by decide +kernel
abbrev cMo_result : ByteArray := prog_11_method_31_code
def yMo_result : MethodName := ⟨RMo, "result", "()J"⟩
def wsMo_result : List Cond := .code yMo_result cMo_result 1 (some .long) :: TB
theorem dMo_result_0 : decode cMo_result 0 = .ok (.aload_n 0, 1) := by decide +kernel
theorem dMo_result_1 : decode cMo_result 1 = .ok (.iconst 0, 1) := by decide +kernel
theorem dMo_result_2 : decode cMo_result 2 = .ok (.putfield 63, 3) := by decide +kernel
theorem dMo_result_5 : decode cMo_result 5 = .ok (.aload_n 0, 1) := by decide +kernel
theorem dMo_result_6 : decode cMo_result 6 = .ok (.getfield 116, 3) := by decide +kernel
theorem dMo_result_9 : decode cMo_result 9 = .ok (.lreturn, 1) := by decide +kernel
abbrev cMo_count : ByteArray := prog_11_method_32_code
def yMo_count : MethodName := ⟨RMo, "count", "(I)I"⟩
def wsMo_count : List Cond := .code yMo_count cMo_count 2 (some .int) :: TB
theorem dMo_count_0 : decode cMo_count 0 = .ok (.aload_n 0, 1) := by decide +kernel
theorem dMo_count_1 : decode cMo_count 1 = .ok (.iconst 0, 1) := by decide +kernel
theorem dMo_count_2 : decode cMo_count 2 = .ok (.putfield 63, 3) := by decide +kernel
theorem dMo_count_5 : decode cMo_count 5 = .ok (.iload_n 1, 1) := by decide +kernel
theorem dMo_count_6 : decode cMo_count 6 = .ok (.tableswitch 59 0 4 #[34, 39, 44, 49, 54], 34) := by decide +kernel
theorem dMo_count_40 : decode cMo_count 40 = .ok (.aload_n 0, 1) := by decide +kernel
theorem dMo_count_41 : decode cMo_count 41 = .ok (.getfield 69, 3) := by decide +kernel
theorem dMo_count_44 : decode cMo_count 44 = .ok (.ireturn, 1) := by decide +kernel
theorem dMo_count_45 : decode cMo_count 45 = .ok (.aload_n 0, 1) := by decide +kernel
theorem dMo_count_46 : decode cMo_count 46 = .ok (.getfield 76, 3) := by decide +kernel
theorem dMo_count_49 : decode cMo_count 49 = .ok (.ireturn, 1) := by decide +kernel
theorem dMo_count_50 : decode cMo_count 50 = .ok (.aload_n 0, 1) := by decide +kernel
theorem dMo_count_51 : decode cMo_count 51 = .ok (.getfield 97, 3) := by decide +kernel
theorem dMo_count_54 : decode cMo_count 54 = .ok (.ireturn, 1) := by decide +kernel
theorem dMo_count_55 : decode cMo_count 55 = .ok (.aload_n 0, 1) := by decide +kernel
theorem dMo_count_56 : decode cMo_count 56 = .ok (.getfield 100, 3) := by decide +kernel
theorem dMo_count_59 : decode cMo_count 59 = .ok (.ireturn, 1) := by decide +kernel
theorem dMo_count_60 : decode cMo_count 60 = .ok (.aload_n 0, 1) := by decide +kernel
theorem dMo_count_61 : decode cMo_count 61 = .ok (.getfield 160, 3) := by decide +kernel
theorem dMo_count_64 : decode cMo_count 64 = .ok (.ireturn, 1) := by decide +kernel
theorem dMo_count_65 : decode cMo_count 65 = .ok (.iconst (-1), 1) := by decide +kernel
theorem dMo_count_66 : decode cMo_count 66 = .ok (.ireturn, 1) := by decide +kernel
