abbrev cNd_init : ByteArray := prog_5_method_1_code
def yNd_init : MethodName := ⟨RNd, "<init>", "()V"⟩
def wsNd_init : List Cond := .code yNd_init cNd_init 1 none :: TB
theorem dNd_init_0 : decode cNd_init 0 = .ok (.aload_n 0, 1) := by decide +kernel
theorem dNd_init_1 : decode cNd_init 1 = .ok (.invokespecial 3, 3) := by decide +kernel
theorem dNd_init_4 : decode cNd_init 4 = .ok (.aload_n 0, 1) := by decide +kernel
theorem dNd_init_5 : decode cNd_init 5 = .ok (.sipush 201, 3) := by decide +kernel
theorem dNd_init_8 : decode cNd_init 8 = .ok (.newarray .int, 2) := by decide +kernel
theorem dNd_init_10 : decode cNd_init 10 = .ok (.putfield 9, 3) := by decide +kernel
theorem dNd_init_13 : decode cNd_init 13 = .ok (.aload_n 0, 1) := by decide +kernel
theorem dNd_init_14 : decode cNd_init 14 = .ok (.sipush 201, 3) := by decide +kernel
theorem dNd_init_17 : decode cNd_init 17 = .ok (.newarray .int, 2) := by decide +kernel
theorem dNd_init_19 : decode cNd_init 19 = .ok (.putfield 15, 3) := by decide +kernel
theorem dNd_init_22 : decode cNd_init 22 = .ok (.aload_n 0, 1) := by decide +kernel
theorem dNd_init_23 : decode cNd_init 23 = .ok (.sipush 201, 3) := by decide +kernel
theorem dNd_init_26 : decode cNd_init 26 = .ok (.newarray .int, 2) := by decide +kernel
theorem dNd_init_28 : decode cNd_init 28 = .ok (.putfield 18, 3) := by decide +kernel
theorem dNd_init_31 : decode cNd_init 31 = .ok (.aload_n 0, 1) := by decide +kernel
theorem dNd_init_32 : decode cNd_init 32 = .ok (.sipush 201, 3) := by decide +kernel
theorem dNd_init_35 : decode cNd_init 35 = .ok (.newarray .int, 2) := by decide +kernel
theorem dNd_init_37 : decode cNd_init 37 = .ok (.putfield 21, 3) := by decide +kernel
theorem dNd_init_40 : decode cNd_init 40 = .ok (.return_, 1) := by decide +kernel
abbrev cNd_add : ByteArray := prog_5_method_2_code
def yNd_add : MethodName := ⟨RNd, "add", "(IIII)I"⟩
def wsNd_add : List Cond := .code yNd_add cNd_add 6 (some .int) :: TB
theorem dNd_add_0 : decode cNd_add 0 = .ok (.iload_n 1, 1) := by decide +kernel
theorem dNd_add_1 : decode cNd_add 1 = .ok (.ifCond .lt 9, 3) := by decide +kernel
theorem dNd_add_4 : decode cNd_add 4 = .ok (.iload_n 1, 1) := by decide +kernel
theorem dNd_add_5 : decode cNd_add 5 = .ok (.bipush 25, 2) := by decide +kernel
theorem dNd_add_7 : decode cNd_add 7 = .ok (.if_icmp .le 6, 3) := by decide +kernel
theorem dNd_add_10 : decode cNd_add 10 = .ok (.bipush (-4), 2) := by decide +kernel
theorem dNd_add_12 : decode cNd_add 12 = .ok (.ireturn, 1) := by decide +kernel
theorem dNd_add_13 : decode cNd_add 13 = .ok (.aload_n 0, 1) := by decide +kernel
theorem dNd_add_14 : decode cNd_add 14 = .ok (.getstatic 24, 3) := by decide +kernel
theorem dNd_add_17 : decode cNd_add 17 = .ok (.iload_n 1, 1) := by decide +kernel
theorem dNd_add_18 : decode cNd_add 18 = .ok (.iaload, 1) := by decide +kernel
theorem dNd_add_19 : decode cNd_add 19 = .ok (.iload_n 2, 1) := by decide +kernel
theorem dNd_add_20 : decode cNd_add 20 = .ok (.iload 4, 2) := by decide +kernel
theorem dNd_add_22 : decode cNd_add 22 = .ok (.invokevirtual 27, 3) := by decide +kernel
theorem dNd_add_25 : decode cNd_add 25 = .ok (.ifCond .eq 18, 3) := by decide +kernel
theorem dNd_add_28 : decode cNd_add 28 = .ok (.aload_n 0, 1) := by decide +kernel
theorem dNd_add_29 : decode cNd_add 29 = .ok (.getstatic 31, 3) := by decide +kernel
theorem dNd_add_32 : decode cNd_add 32 = .ok (.iload_n 1, 1) := by decide +kernel
theorem dNd_add_33 : decode cNd_add 33 = .ok (.iaload, 1) := by decide +kernel
theorem dNd_add_34 : decode cNd_add 34 = .ok (.iload_n 3, 1) := by decide +kernel
theorem dNd_add_35 : decode cNd_add 35 = .ok (.iload 4, 2) := by decide +kernel
theorem dNd_add_37 : decode cNd_add 37 = .ok (.invokevirtual 27, 3) := by decide +kernel
theorem dNd_add_40 : decode cNd_add 40 = .ok (.ifCond .ne 6, 3) := by decide +kernel
theorem dNd_add_43 : decode cNd_add 43 = .ok (.bipush (-2), 2) := by decide +kernel
theorem dNd_add_45 : decode cNd_add 45 = .ok (.ireturn, 1) := by decide +kernel
theorem dNd_add_46 : decode cNd_add 46 = .ok (.aload_n 0, 1) := by decide +kernel
theorem dNd_add_47 : decode cNd_add 47 = .ok (.iload_n 1, 1) := by decide +kernel
theorem dNd_add_48 : decode cNd_add 48 = .ok (.iload_n 2, 1) := by decide +kernel
theorem dNd_add_49 : decode cNd_add 49 = .ok (.invokevirtual 34, 3) := by decide +kernel
theorem dNd_add_52 : decode cNd_add 52 = .ok (.ifCond .ne 6, 3) := by decide +kernel
theorem dNd_add_55 : decode cNd_add 55 = .ok (.bipush (-4), 2) := by decide +kernel
theorem dNd_add_57 : decode cNd_add 57 = .ok (.ireturn, 1) := by decide +kernel
theorem dNd_add_58 : decode cNd_add 58 = .ok (.aload_n 0, 1) := by decide +kernel
theorem dNd_add_59 : decode cNd_add 59 = .ok (.iload_n 1, 1) := by decide +kernel
theorem dNd_add_60 : decode cNd_add 60 = .ok (.iload_n 2, 1) := by decide +kernel
theorem dNd_add_61 : decode cNd_add 61 = .ok (.iload_n 3, 1) := by decide +kernel
theorem dNd_add_62 : decode cNd_add 62 = .ok (.invokevirtual 38, 3) := by decide +kernel
theorem dNd_add_65 : decode cNd_add 65 = .ok (.istore 5, 2) := by decide +kernel
theorem dNd_add_67 : decode cNd_add 67 = .ok (.iload 5, 2) := by decide +kernel
theorem dNd_add_69 : decode cNd_add 69 = .ok (.bipush 100, 2) := by decide +kernel
theorem dNd_add_71 : decode cNd_add 71 = .ok (.if_icmp .le 6, 3) := by decide +kernel
theorem dNd_add_74 : decode cNd_add 74 = .ok (.bipush (-7), 2) := by decide +kernel
theorem dNd_add_76 : decode cNd_add 76 = .ok (.ireturn, 1) := by decide +kernel
theorem dNd_add_77 : decode cNd_add 77 = .ok (.aload_n 0, 1) := by decide +kernel
theorem dNd_add_78 : decode cNd_add 78 = .ok (.getfield 42, 3) := by decide +kernel
theorem dNd_add_81 : decode cNd_add 81 = .ok (.sipush 200, 3) := by decide +kernel
theorem dNd_add_84 : decode cNd_add 84 = .ok (.if_icmp .lt 5, 3) := by decide +kernel
theorem dNd_add_87 : decode cNd_add 87 = .ok (.iconst (-1), 1) := by decide +kernel
theorem dNd_add_88 : decode cNd_add 88 = .ok (.ireturn, 1) := by decide +kernel
theorem dNd_add_89 : decode cNd_add 89 = .ok (.aload_n 0, 1) := by decide +kernel
theorem dNd_add_90 : decode cNd_add 90 = .ok (.dup, 1) := by decide +kernel
theorem dNd_add_91 : decode cNd_add 91 = .ok (.getfield 42, 3) := by decide +kernel
theorem dNd_add_94 : decode cNd_add 94 = .ok (.iconst 1, 1) := by decide +kernel
theorem dNd_add_95 : decode cNd_add 95 = .ok (.iadd, 1) := by decide +kernel
theorem dNd_add_96 : decode cNd_add 96 = .ok (.putfield 42, 3) := by decide +kernel
theorem dNd_add_99 : decode cNd_add 99 = .ok (.aload_n 0, 1) := by decide +kernel
theorem dNd_add_100 : decode cNd_add 100 = .ok (.getfield 9, 3) := by decide +kernel
theorem dNd_add_103 : decode cNd_add 103 = .ok (.aload_n 0, 1) := by decide +kernel
theorem dNd_add_104 : decode cNd_add 104 = .ok (.getfield 42, 3) := by decide +kernel
theorem dNd_add_107 : decode cNd_add 107 = .ok (.iload_n 1, 1) := by decide +kernel
theorem dNd_add_108 : decode cNd_add 108 = .ok (.iastore, 1) := by decide +kernel
theorem dNd_add_109 : decode cNd_add 109 = .ok (.aload_n 0, 1) := by decide +kernel
theorem dNd_add_110 : decode cNd_add 110 = .ok (.getfield 15, 3) := by decide +kernel
theorem dNd_add_113 : decode cNd_add 113 = .ok (.aload_n 0, 1) := by decide +kernel
theorem dNd_add_114 : decode cNd_add 114 = .ok (.getfield 42, 3) := by decide +kernel
theorem dNd_add_117 : decode cNd_add 117 = .ok (.iload_n 2, 1) := by decide +kernel
theorem dNd_add_118 : decode cNd_add 118 = .ok (.iastore, 1) := by decide +kernel
theorem dNd_add_119 : decode cNd_add 119 = .ok (.aload_n 0, 1) := by decide +kernel
theorem dNd_add_120 : decode cNd_add 120 = .ok (.getfield 18, 3) := by decide +kernel
theorem dNd_add_123 : decode cNd_add 123 = .ok (.aload_n 0, 1) := by decide +kernel
theorem dNd_add_124 : decode cNd_add 124 = .ok (.getfield 42, 3) := by decide +kernel
theorem dNd_add_127 : decode cNd_add 127 = .ok (.iload_n 3, 1) := by decide +kernel
theorem dNd_add_128 : decode cNd_add 128 = .ok (.iastore, 1) := by decide +kernel
theorem dNd_add_129 : decode cNd_add 129 = .ok (.aload_n 0, 1) := by decide +kernel
theorem dNd_add_130 : decode cNd_add 130 = .ok (.getfield 21, 3) := by decide +kernel
theorem dNd_add_133 : decode cNd_add 133 = .ok (.aload_n 0, 1) := by decide +kernel
theorem dNd_add_134 : decode cNd_add 134 = .ok (.getfield 42, 3) := by decide +kernel
theorem dNd_add_137 : decode cNd_add 137 = .ok (.iload 5, 2) := by decide +kernel
theorem dNd_add_139 : decode cNd_add 139 = .ok (.iastore, 1) := by decide +kernel
theorem dNd_add_140 : decode cNd_add 140 = .ok (.aload_n 0, 1) := by decide +kernel
theorem dNd_add_141 : decode cNd_add 141 = .ok (.getfield 42, 3) := by decide +kernel
theorem dNd_add_144 : decode cNd_add 144 = .ok (.ireturn, 1) := by decide +kernel
abbrev cNd_kindOf : ByteArray := prog_5_method_3_code
def yNd_kindOf : MethodName := ⟨RNd, "kindOf", "(I)I"⟩
def wsNd_kindOf : List Cond := .code yNd_kindOf cNd_kindOf 2 (some .int) :: TB
theorem dNd_kindOf_0 : decode cNd_kindOf 0 = .ok (.iload_n 1, 1) := by decide +kernel
theorem dNd_kindOf_1 : decode cNd_kindOf 1 = .ok (.iconst 1, 1) := by decide +kernel
theorem dNd_kindOf_2 : decode cNd_kindOf 2 = .ok (.if_icmp .lt 20, 3) := by decide +kernel
theorem dNd_kindOf_5 : decode cNd_kindOf 5 = .ok (.iload_n 1, 1) := by decide +kernel
theorem dNd_kindOf_6 : decode cNd_kindOf 6 = .ok (.aload_n 0, 1) := by decide +kernel
theorem dNd_kindOf_7 : decode cNd_kindOf 7 = .ok (.getfield 42, 3) := by decide +kernel
theorem dNd_kindOf_10 : decode cNd_kindOf 10 = .ok (.if_icmp .gt 12, 3) := by decide +kernel
theorem dNd_kindOf_13 : decode cNd_kindOf 13 = .ok (.aload_n 0, 1) := by decide +kernel
theorem dNd_kindOf_14 : decode cNd_kindOf 14 = .ok (.getfield 9, 3) := by decide +kernel
theorem dNd_kindOf_17 : decode cNd_kindOf 17 = .ok (.iload_n 1, 1) := by decide +kernel
theorem dNd_kindOf_18 : decode cNd_kindOf 18 = .ok (.iaload, 1) := by decide +kernel
theorem dNd_kindOf_19 : decode cNd_kindOf 19 = .ok (.goto 4, 3) := by decide +kernel
theorem dNd_kindOf_22 : decode cNd_kindOf 22 = .ok (.iconst (-1), 1) := by decide +kernel
theorem dNd_kindOf_23 : decode cNd_kindOf 23 = .ok (.ireturn, 1) := by decide +kernel
abbrev cNd_aOf : ByteArray := prog_5_method_4_code
def yNd_aOf : MethodName := ⟨RNd, "aOf", "(I)I"⟩
def wsNd_aOf : List Cond := .code yNd_aOf cNd_aOf 2 (some .int) :: TB
theorem dNd_aOf_0 : decode cNd_aOf 0 = .ok (.iload_n 1, 1) := by decide +kernel
theorem dNd_aOf_1 : decode cNd_aOf 1 = .ok (.iconst 1, 1) := by decide +kernel
theorem dNd_aOf_2 : decode cNd_aOf 2 = .ok (.if_icmp .lt 20, 3) := by decide +kernel
theorem dNd_aOf_5 : decode cNd_aOf 5 = .ok (.iload_n 1, 1) := by decide +kernel
theorem dNd_aOf_6 : decode cNd_aOf 6 = .ok (.aload_n 0, 1) := by decide +kernel
theorem dNd_aOf_7 : decode cNd_aOf 7 = .ok (.getfield 42, 3) := by decide +kernel
theorem dNd_aOf_10 : decode cNd_aOf 10 = .ok (.if_icmp .gt 12, 3) := by decide +kernel
theorem dNd_aOf_13 : decode cNd_aOf 13 = .ok (.aload_n 0, 1) := by decide +kernel
theorem dNd_aOf_14 : decode cNd_aOf 14 = .ok (.getfield 15, 3) := by decide +kernel
theorem dNd_aOf_17 : decode cNd_aOf 17 = .ok (.iload_n 1, 1) := by decide +kernel
theorem dNd_aOf_18 : decode cNd_aOf 18 = .ok (.iaload, 1) := by decide +kernel
theorem dNd_aOf_19 : decode cNd_aOf 19 = .ok (.goto 4, 3) := by decide +kernel
theorem dNd_aOf_22 : decode cNd_aOf 22 = .ok (.iconst 0, 1) := by decide +kernel
theorem dNd_aOf_23 : decode cNd_aOf 23 = .ok (.ireturn, 1) := by decide +kernel
abbrev cNd_bOf : ByteArray := prog_5_method_5_code
def yNd_bOf : MethodName := ⟨RNd, "bOf", "(I)I"⟩
def wsNd_bOf : List Cond := .code yNd_bOf cNd_bOf 2 (some .int) :: TB
theorem dNd_bOf_0 : decode cNd_bOf 0 = .ok (.iload_n 1, 1) := by decide +kernel
theorem dNd_bOf_1 : decode cNd_bOf 1 = .ok (.iconst 1, 1) := by decide +kernel
theorem dNd_bOf_2 : decode cNd_bOf 2 = .ok (.if_icmp .lt 20, 3) := by decide +kernel
theorem dNd_bOf_5 : decode cNd_bOf 5 = .ok (.iload_n 1, 1) := by decide +kernel
theorem dNd_bOf_6 : decode cNd_bOf 6 = .ok (.aload_n 0, 1) := by decide +kernel
theorem dNd_bOf_7 : decode cNd_bOf 7 = .ok (.getfield 42, 3) := by decide +kernel
theorem dNd_bOf_10 : decode cNd_bOf 10 = .ok (.if_icmp .gt 12, 3) := by decide +kernel
theorem dNd_bOf_13 : decode cNd_bOf 13 = .ok (.aload_n 0, 1) := by decide +kernel
theorem dNd_bOf_14 : decode cNd_bOf 14 = .ok (.getfield 18, 3) := by decide +kernel
theorem dNd_bOf_17 : decode cNd_bOf 17 = .ok (.iload_n 1, 1) := by decide +kernel
theorem dNd_bOf_18 : decode cNd_bOf 18 = .ok (.iaload, 1) := by decide +kernel
theorem dNd_bOf_19 : decode cNd_bOf 19 = .ok (.goto 4, 3) := by decide +kernel
theorem dNd_bOf_22 : decode cNd_bOf 22 = .ok (.iconst 0, 1) := by decide +kernel
theorem dNd_bOf_23 : decode cNd_bOf 23 = .ok (.ireturn, 1) := by decide +kernel
abbrev cNd_isStatement : ByteArray := prog_5_method_6_code
def yNd_isStatement : MethodName := ⟨RNd, "isStatement", "(I)Z"⟩
def wsNd_isStatement : List Cond := .code yNd_isStatement cNd_isStatement 3 (some .boolean) :: TB
theorem dNd_isStatement_0 : decode cNd_isStatement 0 = .ok (.aload_n 0, 1) := by decide +kernel
theorem dNd_isStatement_1 : decode cNd_isStatement 1 = .ok (.iload_n 1, 1) := by decide +kernel
theorem dNd_isStatement_2 : decode cNd_isStatement 2 = .ok (.invokevirtual 46, 3) := by decide +kernel
theorem dNd_isStatement_5 : decode cNd_isStatement 5 = .ok (.istore_n 2, 1) := by decide +kernel
theorem dNd_isStatement_6 : decode cNd_isStatement 6 = .ok (.iload_n 2, 1) := by decide +kernel
theorem dNd_isStatement_7 : decode cNd_isStatement 7 = .ok (.bipush 9, 2) := by decide +kernel
theorem dNd_isStatement_9 : decode cNd_isStatement 9 = .ok (.if_icmp .lt 25, 3) := by decide +kernel
theorem dNd_isStatement_12 : decode cNd_isStatement 12 = .ok (.iload_n 2, 1) := by decide +kernel
theorem dNd_isStatement_13 : decode cNd_isStatement 13 = .ok (.bipush 13, 2) := by decide +kernel
theorem dNd_isStatement_15 : decode cNd_isStatement 15 = .ok (.if_icmp .eq 19, 3) := by decide +kernel
theorem dNd_isStatement_18 : decode cNd_isStatement 18 = .ok (.iload_n 2, 1) := by decide +kernel
theorem dNd_isStatement_19 : decode cNd_isStatement 19 = .ok (.bipush 15, 2) := by decide +kernel
theorem dNd_isStatement_21 : decode cNd_isStatement 21 = .ok (.if_icmp .eq 13, 3) := by decide +kernel
theorem dNd_isStatement_24 : decode cNd_isStatement 24 = .ok (.iload_n 2, 1) := by decide +kernel
theorem dNd_isStatement_25 : decode cNd_isStatement 25 = .ok (.bipush 16, 2) := by decide +kernel
theorem dNd_isStatement_27 : decode cNd_isStatement 27 = .ok (.if_icmp .eq 7, 3) := by decide +kernel
theorem dNd_isStatement_30 : decode cNd_isStatement 30 = .ok (.iconst 1, 1) := by decide +kernel
theorem dNd_isStatement_31 : decode cNd_isStatement 31 = .ok (.goto 4, 3) := by decide +kernel
theorem dNd_isStatement_34 : decode cNd_isStatement 34 = .ok (.iconst 0, 1) := by decide +kernel
theorem dNd_isStatement_35 : decode cNd_isStatement 35 = .ok (.ireturn, 1) := by decide +kernel
abbrev cNd_valueNeededBy : ByteArray := prog_5_method_7_code
def yNd_valueNeededBy : MethodName := ⟨RNd, "valueNeededBy", "(I)I"⟩
def wsNd_valueNeededBy : List Cond := .code yNd_valueNeededBy cNd_valueNeededBy 3 (some .int) :: TB
theorem dNd_valueNeededBy_0 : decode cNd_valueNeededBy 0 = .ok (.aload_n 0, 1) := by decide +kernel
theorem dNd_valueNeededBy_1 : decode cNd_valueNeededBy 1 = .ok (.iload_n 1, 1) := by decide +kernel
theorem dNd_valueNeededBy_2 : decode cNd_valueNeededBy 2 = .ok (.invokevirtual 46, 3) := by decide +kernel
theorem dNd_valueNeededBy_5 : decode cNd_valueNeededBy 5 = .ok (.istore_n 2, 1) := by decide +kernel
theorem dNd_valueNeededBy_6 : decode cNd_valueNeededBy 6 = .ok (.iload_n 2, 1) := by decide +kernel
theorem dNd_valueNeededBy_7 : decode cNd_valueNeededBy 7 = .ok (.ifCond .lt 9, 3) := by decide +kernel
theorem dNd_valueNeededBy_10 : decode cNd_valueNeededBy 10 = .ok (.iload_n 2, 1) := by decide +kernel
theorem dNd_valueNeededBy_11 : decode cNd_valueNeededBy 11 = .ok (.bipush 25, 2) := by decide +kernel
theorem dNd_valueNeededBy_13 : decode cNd_valueNeededBy 13 = .ok (.if_icmp .le 5, 3) := by decide +kernel
theorem dNd_valueNeededBy_16 : decode cNd_valueNeededBy 16 = .ok (.iconst 0, 1) := by decide +kernel
theorem dNd_valueNeededBy_17 : decode cNd_valueNeededBy 17 = .ok (.ireturn, 1) := by decide +kernel
theorem dNd_valueNeededBy_18 : decode cNd_valueNeededBy 18 = .ok (.getstatic 24, 3) := by decide +kernel
theorem dNd_valueNeededBy_21 : decode cNd_valueNeededBy 21 = .ok (.iload_n 2, 1) := by decide +kernel
theorem dNd_valueNeededBy_22 : decode cNd_valueNeededBy 22 = .ok (.iaload, 1) := by decide +kernel
theorem dNd_valueNeededBy_23 : decode cNd_valueNeededBy 23 = .ok (.iconst 2, 1) := by decide +kernel
theorem dNd_valueNeededBy_24 : decode cNd_valueNeededBy 24 = .ok (.if_icmp .ne 9, 3) := by decide +kernel
theorem dNd_valueNeededBy_27 : decode cNd_valueNeededBy 27 = .ok (.aload_n 0, 1) := by decide +kernel
theorem dNd_valueNeededBy_28 : decode cNd_valueNeededBy 28 = .ok (.iload_n 1, 1) := by decide +kernel
theorem dNd_valueNeededBy_29 : decode cNd_valueNeededBy 29 = .ok (.invokevirtual 50, 3) := by decide +kernel
theorem dNd_valueNeededBy_32 : decode cNd_valueNeededBy 32 = .ok (.ireturn, 1) := by decide +kernel
theorem dNd_valueNeededBy_33 : decode cNd_valueNeededBy 33 = .ok (.getstatic 31, 3) := by decide +kernel
theorem dNd_valueNeededBy_36 : decode cNd_valueNeededBy 36 = .ok (.iload_n 2, 1) := by decide +kernel
theorem dNd_valueNeededBy_37 : decode cNd_valueNeededBy 37 = .ok (.iaload, 1) := by decide +kernel
theorem dNd_valueNeededBy_38 : decode cNd_valueNeededBy 38 = .ok (.iconst 2, 1) := by decide +kernel
theorem dNd_valueNeededBy_39 : decode cNd_valueNeededBy 39 = .ok (.if_icmp .ne 11, 3) := by decide +kernel
theorem dNd_valueNeededBy_42 : decode cNd_valueNeededBy 42 = .ok (.aload_n 0, 1) := by decide +kernel
theorem dNd_valueNeededBy_43 : decode cNd_valueNeededBy 43 = .ok (.iload_n 1, 1) := by decide +kernel
theorem dNd_valueNeededBy_44 : decode cNd_valueNeededBy 44 = .ok (.invokevirtual 53, 3) := by decide +kernel
theorem dNd_valueNeededBy_47 : decode cNd_valueNeededBy 47 = .ok (.goto 4, 3) := by decide +kernel
theorem dNd_valueNeededBy_50 : decode cNd_valueNeededBy 50 = .ok (.iconst 0, 1) := by decide +kernel
theorem dNd_valueNeededBy_51 : decode cNd_valueNeededBy 51 = .ok (.ireturn, 1) := by decide +kernel
abbrev cNd_isValue : ByteArray := prog_5_method_8_code
def yNd_isValue : MethodName := ⟨RNd, "isValue", "(I)Z"⟩
def wsNd_isValue : List Cond := .code yNd_isValue cNd_isValue 3 (some .boolean) :: TB
theorem dNd_isValue_0 : decode cNd_isValue 0 = .ok (.aload_n 0, 1) := by decide +kernel
theorem dNd_isValue_1 : decode cNd_isValue 1 = .ok (.iload_n 1, 1) := by decide +kernel
theorem dNd_isValue_2 : decode cNd_isValue 2 = .ok (.invokevirtual 46, 3) := by decide +kernel
theorem dNd_isValue_5 : decode cNd_isValue 5 = .ok (.istore_n 2, 1) := by decide +kernel
theorem dNd_isValue_6 : decode cNd_isValue 6 = .ok (.iload_n 2, 1) := by decide +kernel
theorem dNd_isValue_7 : decode cNd_isValue 7 = .ok (.ifCond .lt 13, 3) := by decide +kernel
theorem dNd_isValue_10 : decode cNd_isValue 10 = .ok (.iload_n 2, 1) := by decide +kernel
theorem dNd_isValue_11 : decode cNd_isValue 11 = .ok (.bipush 8, 2) := by decide +kernel
theorem dNd_isValue_13 : decode cNd_isValue 13 = .ok (.if_icmp .ge 7, 3) := by decide +kernel
theorem dNd_isValue_16 : decode cNd_isValue 16 = .ok (.iconst 1, 1) := by decide +kernel
theorem dNd_isValue_17 : decode cNd_isValue 17 = .ok (.goto 4, 3) := by decide +kernel
theorem dNd_isValue_20 : decode cNd_isValue 20 = .ok (.iconst 0, 1) := by decide +kernel
theorem dNd_isValue_21 : decode cNd_isValue 21 = .ok (.ireturn, 1) := by decide +kernel
abbrev cNd_meets : ByteArray := prog_5_method_9_code
def yNd_meets : MethodName := ⟨RNd, "meets", "(III)Z"⟩
def wsNd_meets : List Cond := .code yNd_meets cNd_meets 4 (some .boolean) :: TB
theorem dNd_meets_0 : decode cNd_meets 0 = .ok (.iload_n 1, 1) := by decide +kernel
theorem dNd_meets_1 : decode cNd_meets 1 = .ok (.tableswitch 192 1 9 #[51, 66, 72, 78, 94, 110, 130, 146, 174], 51) := by decide +kernel
theorem dNd_meets_52 : decode cNd_meets 52 = .ok (.iload_n 2, 1) := by decide +kernel
theorem dNd_meets_53 : decode cNd_meets 53 = .ok (.ifCond .lt 12, 3) := by decide +kernel
theorem dNd_meets_56 : decode cNd_meets 56 = .ok (.iload_n 2, 1) := by decide +kernel
theorem dNd_meets_57 : decode cNd_meets 57 = .ok (.iload_n 3, 1) := by decide +kernel
theorem dNd_meets_58 : decode cNd_meets 58 = .ok (.if_icmp .ge 7, 3) := by decide +kernel
theorem dNd_meets_61 : decode cNd_meets 61 = .ok (.iconst 1, 1) := by decide +kernel
theorem dNd_meets_62 : decode cNd_meets 62 = .ok (.goto 4, 3) := by decide +kernel
theorem dNd_meets_65 : decode cNd_meets 65 = .ok (.iconst 0, 1) := by decide +kernel
theorem dNd_meets_66 : decode cNd_meets 66 = .ok (.ireturn, 1) := by decide +kernel
theorem dNd_meets_67 : decode cNd_meets 67 = .ok (.aload_n 0, 1) := by decide +kernel
theorem dNd_meets_68 : decode cNd_meets 68 = .ok (.iload_n 2, 1) := by decide +kernel
theorem dNd_meets_69 : decode cNd_meets 69 = .ok (.invokevirtual 56, 3) := by decide +kernel
theorem dNd_meets_72 : decode cNd_meets 72 = .ok (.ireturn, 1) := by decide +kernel
theorem dNd_meets_73 : decode cNd_meets 73 = .ok (.aload_n 0, 1) := by decide +kernel
theorem dNd_meets_74 : decode cNd_meets 74 = .ok (.iload_n 2, 1) := by decide +kernel
theorem dNd_meets_75 : decode cNd_meets 75 = .ok (.invokevirtual 60, 3) := by decide +kernel
theorem dNd_meets_78 : decode cNd_meets 78 = .ok (.ireturn, 1) := by decide +kernel
theorem dNd_meets_79 : decode cNd_meets 79 = .ok (.aload_n 0, 1) := by decide +kernel
theorem dNd_meets_80 : decode cNd_meets 80 = .ok (.iload_n 2, 1) := by decide +kernel
theorem dNd_meets_81 : decode cNd_meets 81 = .ok (.invokevirtual 46, 3) := by decide +kernel
theorem dNd_meets_84 : decode cNd_meets 84 = .ok (.bipush 13, 2) := by decide +kernel
theorem dNd_meets_86 : decode cNd_meets 86 = .ok (.if_icmp .ne 7, 3) := by decide +kernel
theorem dNd_meets_89 : decode cNd_meets 89 = .ok (.iconst 1, 1) := by decide +kernel
theorem dNd_meets_90 : decode cNd_meets 90 = .ok (.goto 4, 3) := by decide +kernel
theorem dNd_meets_93 : decode cNd_meets 93 = .ok (.iconst 0, 1) := by decide +kernel
theorem dNd_meets_94 : decode cNd_meets 94 = .ok (.ireturn, 1) := by decide +kernel
theorem dNd_meets_95 : decode cNd_meets 95 = .ok (.aload_n 0, 1) := by decide +kernel
theorem dNd_meets_96 : decode cNd_meets 96 = .ok (.iload_n 2, 1) := by decide +kernel
theorem dNd_meets_97 : decode cNd_meets 97 = .ok (.invokevirtual 46, 3) := by decide +kernel
theorem dNd_meets_100 : decode cNd_meets 100 = .ok (.bipush 15, 2) := by decide +kernel
theorem dNd_meets_102 : decode cNd_meets 102 = .ok (.if_icmp .ne 7, 3) := by decide +kernel
theorem dNd_meets_105 : decode cNd_meets 105 = .ok (.iconst 1, 1) := by decide +kernel
theorem dNd_meets_106 : decode cNd_meets 106 = .ok (.goto 4, 3) := by decide +kernel
theorem dNd_meets_109 : decode cNd_meets 109 = .ok (.iconst 0, 1) := by decide +kernel
theorem dNd_meets_110 : decode cNd_meets 110 = .ok (.ireturn, 1) := by decide +kernel
theorem dNd_meets_111 : decode cNd_meets 111 = .ok (.iload_n 2, 1) := by decide +kernel
theorem dNd_meets_112 : decode cNd_meets 112 = .ok (.ifCond .eq 13, 3) := by decide +kernel
theorem dNd_meets_115 : decode cNd_meets 115 = .ok (.aload_n 0, 1) := by decide +kernel
theorem dNd_meets_116 : decode cNd_meets 116 = .ok (.iload_n 2, 1) := by decide +kernel
theorem dNd_meets_117 : decode cNd_meets 117 = .ok (.invokevirtual 46, 3) := by decide +kernel
theorem dNd_meets_120 : decode cNd_meets 120 = .ok (.bipush 15, 2) := by decide +kernel
theorem dNd_meets_122 : decode cNd_meets 122 = .ok (.if_icmp .ne 7, 3) := by decide +kernel
theorem dNd_meets_125 : decode cNd_meets 125 = .ok (.iconst 1, 1) := by decide +kernel
theorem dNd_meets_126 : decode cNd_meets 126 = .ok (.goto 4, 3) := by decide +kernel
theorem dNd_meets_129 : decode cNd_meets 129 = .ok (.iconst 0, 1) := by decide +kernel
theorem dNd_meets_130 : decode cNd_meets 130 = .ok (.ireturn, 1) := by decide +kernel
theorem dNd_meets_131 : decode cNd_meets 131 = .ok (.aload_n 0, 1) := by decide +kernel
theorem dNd_meets_132 : decode cNd_meets 132 = .ok (.iload_n 2, 1) := by decide +kernel
theorem dNd_meets_133 : decode cNd_meets 133 = .ok (.invokevirtual 46, 3) := by decide +kernel
theorem dNd_meets_136 : decode cNd_meets 136 = .ok (.bipush 16, 2) := by decide +kernel
theorem dNd_meets_138 : decode cNd_meets 138 = .ok (.if_icmp .ne 7, 3) := by decide +kernel
theorem dNd_meets_141 : decode cNd_meets 141 = .ok (.iconst 1, 1) := by decide +kernel
theorem dNd_meets_142 : decode cNd_meets 142 = .ok (.goto 4, 3) := by decide +kernel
theorem dNd_meets_145 : decode cNd_meets 145 = .ok (.iconst 0, 1) := by decide +kernel
theorem dNd_meets_146 : decode cNd_meets 146 = .ok (.ireturn, 1) := by decide +kernel
theorem dNd_meets_147 : decode cNd_meets 147 = .ok (.iload_n 2, 1) := by decide +kernel
theorem dNd_meets_148 : decode cNd_meets 148 = .ok (.ifCond .eq 21, 3) := by decide +kernel
theorem dNd_meets_151 : decode cNd_meets 151 = .ok (.aload_n 0, 1) := by decide +kernel
theorem dNd_meets_152 : decode cNd_meets 152 = .ok (.iload_n 2, 1) := by decide +kernel
theorem dNd_meets_153 : decode cNd_meets 153 = .ok (.invokevirtual 56, 3) := by decide +kernel
theorem dNd_meets_156 : decode cNd_meets 156 = .ok (.ifCond .ne 13, 3) := by decide +kernel
theorem dNd_meets_159 : decode cNd_meets 159 = .ok (.aload_n 0, 1) := by decide +kernel
theorem dNd_meets_160 : decode cNd_meets 160 = .ok (.iload_n 2, 1) := by decide +kernel
theorem dNd_meets_161 : decode cNd_meets 161 = .ok (.invokevirtual 46, 3) := by decide +kernel
theorem dNd_meets_164 : decode cNd_meets 164 = .ok (.bipush 8, 2) := by decide +kernel
theorem dNd_meets_166 : decode cNd_meets 166 = .ok (.if_icmp .ne 7, 3) := by decide +kernel
theorem dNd_meets_169 : decode cNd_meets 169 = .ok (.iconst 1, 1) := by decide +kernel
theorem dNd_meets_170 : decode cNd_meets 170 = .ok (.goto 4, 3) := by decide +kernel
theorem dNd_meets_173 : decode cNd_meets 173 = .ok (.iconst 0, 1) := by decide +kernel
theorem dNd_meets_174 : decode cNd_meets 174 = .ok (.ireturn, 1) := by decide +kernel
theorem dNd_meets_175 : decode cNd_meets 175 = .ok (.iload_n 2, 1) := by decide +kernel
theorem dNd_meets_176 : decode cNd_meets 176 = .ok (.ifCond .eq 11, 3) := by decide +kernel
theorem dNd_meets_179 : decode cNd_meets 179 = .ok (.aload_n 0, 1) := by decide +kernel
theorem dNd_meets_180 : decode cNd_meets 180 = .ok (.iload_n 2, 1) := by decide +kernel
theorem dNd_meets_181 : decode cNd_meets 181 = .ok (.invokevirtual 60, 3) := by decide +kernel
theorem dNd_meets_184 : decode cNd_meets 184 = .ok (.ifCond .eq 7, 3) := by decide +kernel
theorem dNd_meets_187 : decode cNd_meets 187 = .ok (.iconst 1, 1) := by decide +kernel
theorem dNd_meets_188 : decode cNd_meets 188 = .ok (.goto 4, 3) := by decide +kernel
theorem dNd_meets_191 : decode cNd_meets 191 = .ok (.iconst 0, 1) := by decide +kernel
theorem dNd_meets_192 : decode cNd_meets 192 = .ok (.ireturn, 1) := by decide +kernel
theorem dNd_meets_193 : decode cNd_meets 193 = .ok (.iconst 1, 1) := by decide +kernel
theorem dNd_meets_194 : decode cNd_meets 194 = .ok (.ireturn, 1) := by decide +kernel
abbrev cNd_isTargetSo : ByteArray := prog_5_method_10_code
def yNd_isTargetSo : MethodName := ⟨RNd, "isTargetSo", "(II)Z"⟩
def wsNd_isTargetSo : List Cond := .code yNd_isTargetSo cNd_isTargetSo 3 (some .boolean) :: TB
theorem dNd_isTargetSo_0 : decode cNd_isTargetSo 0 = .ok (.iload_n 1, 1) := by decide +kernel
theorem dNd_isTargetSo_1 : decode cNd_isTargetSo 1 = .ok (.bipush 17, 2) := by decide +kernel
theorem dNd_isTargetSo_3 : decode cNd_isTargetSo 3 = .ok (.if_icmp .eq 9, 3) := by decide +kernel
theorem dNd_isTargetSo_6 : decode cNd_isTargetSo 6 = .ok (.iload_n 1, 1) := by decide +kernel
theorem dNd_isTargetSo_7 : decode cNd_isTargetSo 7 = .ok (.bipush 18, 2) := by decide +kernel
theorem dNd_isTargetSo_9 : decode cNd_isTargetSo 9 = .ok (.if_icmp .ne 20, 3) := by decide +kernel
theorem dNd_isTargetSo_12 : decode cNd_isTargetSo 12 = .ok (.iload_n 2, 1) := by decide +kernel
theorem dNd_isTargetSo_13 : decode cNd_isTargetSo 13 = .ok (.iconst 1, 1) := by decide +kernel
theorem dNd_isTargetSo_14 : decode cNd_isTargetSo 14 = .ok (.if_icmp .lt 13, 3) := by decide +kernel
theorem dNd_isTargetSo_17 : decode cNd_isTargetSo 17 = .ok (.iload_n 2, 1) := by decide +kernel
theorem dNd_isTargetSo_18 : decode cNd_isTargetSo 18 = .ok (.bipush 30, 2) := by decide +kernel
theorem dNd_isTargetSo_20 : decode cNd_isTargetSo 20 = .ok (.if_icmp .gt 7, 3) := by decide +kernel
theorem dNd_isTargetSo_23 : decode cNd_isTargetSo 23 = .ok (.iconst 1, 1) := by decide +kernel
theorem dNd_isTargetSo_24 : decode cNd_isTargetSo 24 = .ok (.goto 4, 3) := by decide +kernel
theorem dNd_isTargetSo_27 : decode cNd_isTargetSo 27 = .ok (.iconst 0, 1) := by decide +kernel
theorem dNd_isTargetSo_28 : decode cNd_isTargetSo 28 = .ok (.ireturn, 1) := by decide +kernel
theorem dNd_isTargetSo_29 : decode cNd_isTargetSo 29 = .ok (.iload_n 1, 1) := by decide +kernel
theorem dNd_isTargetSo_30 : decode cNd_isTargetSo 30 = .ok (.bipush 19, 2) := by decide +kernel
theorem dNd_isTargetSo_32 : decode cNd_isTargetSo 32 = .ok (.if_icmp .ne 12, 3) := by decide +kernel
theorem dNd_isTargetSo_35 : decode cNd_isTargetSo 35 = .ok (.iload_n 2, 1) := by decide +kernel
theorem dNd_isTargetSo_36 : decode cNd_isTargetSo 36 = .ok (.ifCond .eq 8, 3) := by decide +kernel
theorem dNd_isTargetSo_39 : decode cNd_isTargetSo 39 = .ok (.iload_n 2, 1) := by decide +kernel
theorem dNd_isTargetSo_40 : decode cNd_isTargetSo 40 = .ok (.iconst 1, 1) := by decide +kernel
theorem dNd_isTargetSo_41 : decode cNd_isTargetSo 41 = .ok (.if_icmp .ne 7, 3) := by decide +kernel
theorem dNd_isTargetSo_44 : decode cNd_isTargetSo 44 = .ok (.iconst 1, 1) := by decide +kernel
theorem dNd_isTargetSo_45 : decode cNd_isTargetSo 45 = .ok (.goto 4, 3) := by decide +kernel
theorem dNd_isTargetSo_48 : decode cNd_isTargetSo 48 = .ok (.iconst 0, 1) := by decide +kernel
theorem dNd_isTargetSo_49 : decode cNd_isTargetSo 49 = .ok (.ireturn, 1) := by decide +kernel
abbrev cNd_sizeWith : ByteArray := prog_5_method_11_code
def yNd_sizeWith : MethodName := ⟨RNd, "sizeWith", "(III)I"⟩
def wsNd_sizeWith : List Cond := .code yNd_sizeWith cNd_sizeWith 5 (some .int) :: TB
theorem dNd_sizeWith_0 : decode cNd_sizeWith 0 = .ok (.iload_n 1, 1) := by decide +kernel
theorem dNd_sizeWith_1 : decode cNd_sizeWith 1 = .ok (.iconst 2, 1) := by decide +kernel
theorem dNd_sizeWith_2 : decode cNd_sizeWith 2 = .ok (.if_icmp .lt 13, 3) := by decide +kernel
theorem dNd_sizeWith_5 : decode cNd_sizeWith 5 = .ok (.iload_n 1, 1) := by decide +kernel
theorem dNd_sizeWith_6 : decode cNd_sizeWith 6 = .ok (.bipush 7, 2) := by decide +kernel
theorem dNd_sizeWith_8 : decode cNd_sizeWith 8 = .ok (.if_icmp .gt 7, 3) := by decide +kernel
theorem dNd_sizeWith_11 : decode cNd_sizeWith 11 = .ok (.iconst 1, 1) := by decide +kernel
theorem dNd_sizeWith_12 : decode cNd_sizeWith 12 = .ok (.goto 4, 3) := by decide +kernel
theorem dNd_sizeWith_15 : decode cNd_sizeWith 15 = .ok (.iconst 0, 1) := by decide +kernel
theorem dNd_sizeWith_16 : decode cNd_sizeWith 16 = .ok (.istore 4, 2) := by decide +kernel
theorem dNd_sizeWith_18 : decode cNd_sizeWith 18 = .ok (.iload 4, 2) := by decide +kernel
theorem dNd_sizeWith_20 : decode cNd_sizeWith 20 = .ok (.ifCond .eq 37, 3) := by decide +kernel
theorem dNd_sizeWith_23 : decode cNd_sizeWith 23 = .ok (.aload_n 0, 1) := by decide +kernel
theorem dNd_sizeWith_24 : decode cNd_sizeWith 24 = .ok (.iload_n 2, 1) := by decide +kernel
theorem dNd_sizeWith_25 : decode cNd_sizeWith 25 = .ok (.invokevirtual 56, 3) := by decide +kernel
theorem dNd_sizeWith_28 : decode cNd_sizeWith 28 = .ok (.ifCond .eq 29, 3) := by decide +kernel
theorem dNd_sizeWith_31 : decode cNd_sizeWith 31 = .ok (.aload_n 0, 1) := by decide +kernel
theorem dNd_sizeWith_32 : decode cNd_sizeWith 32 = .ok (.iload_n 3, 1) := by decide +kernel
theorem dNd_sizeWith_33 : decode cNd_sizeWith 33 = .ok (.invokevirtual 56, 3) := by decide +kernel
theorem dNd_sizeWith_36 : decode cNd_sizeWith 36 = .ok (.ifCond .eq 21, 3) := by decide +kernel
theorem dNd_sizeWith_39 : decode cNd_sizeWith 39 = .ok (.iconst 1, 1) := by decide +kernel
theorem dNd_sizeWith_40 : decode cNd_sizeWith 40 = .ok (.aload_n 0, 1) := by decide +kernel
theorem dNd_sizeWith_41 : decode cNd_sizeWith 41 = .ok (.getfield 21, 3) := by decide +kernel
theorem dNd_sizeWith_44 : decode cNd_sizeWith 44 = .ok (.iload_n 2, 1) := by decide +kernel
theorem dNd_sizeWith_45 : decode cNd_sizeWith 45 = .ok (.iaload, 1) := by decide +kernel
theorem dNd_sizeWith_46 : decode cNd_sizeWith 46 = .ok (.iadd, 1) := by decide +kernel
theorem dNd_sizeWith_47 : decode cNd_sizeWith 47 = .ok (.aload_n 0, 1) := by decide +kernel
theorem dNd_sizeWith_48 : decode cNd_sizeWith 48 = .ok (.getfield 21, 3) := by decide +kernel
theorem dNd_sizeWith_51 : decode cNd_sizeWith 51 = .ok (.iload_n 3, 1) := by decide +kernel
theorem dNd_sizeWith_52 : decode cNd_sizeWith 52 = .ok (.iaload, 1) := by decide +kernel
theorem dNd_sizeWith_53 : decode cNd_sizeWith 53 = .ok (.iadd, 1) := by decide +kernel
theorem dNd_sizeWith_54 : decode cNd_sizeWith 54 = .ok (.goto 4, 3) := by decide +kernel
theorem dNd_sizeWith_57 : decode cNd_sizeWith 57 = .ok (.iconst 1, 1) := by decide +kernel
theorem dNd_sizeWith_58 : decode cNd_sizeWith 58 = .ok (.ireturn, 1) := by decide +kernel
