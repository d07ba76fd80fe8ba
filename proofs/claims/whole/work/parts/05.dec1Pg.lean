abbrev cPg_init : ByteArray := prog_6_method_1_code
def yPg_init : MethodName := ⟨RPg, "<init>", "()V"⟩
def wsPg_init : List Cond := .code yPg_init cPg_init 1 none :: TB
theorem dPg_init_0 : decode cPg_init 0 = .ok (.aload_n 0, 1) := by decide +kernel
theorem dPg_init_1 : decode cPg_init 1 = .ok (.invokespecial 3, 3) := by decide +kernel
theorem dPg_init_4 : decode cPg_init 4 = .ok (.aload_n 0, 1) := by decide +kernel
theorem dPg_init_5 : decode cPg_init 5 = .ok (.bipush 31, 2) := by decide +kernel
theorem dPg_init_7 : decode cPg_init 7 = .ok (.newarray .int, 2) := by decide +kernel
theorem dPg_init_9 : decode cPg_init 9 = .ok (.putfield 9, 3) := by decide +kernel
theorem dPg_init_12 : decode cPg_init 12 = .ok (.aload_n 0, 1) := by decide +kernel
theorem dPg_init_13 : decode cPg_init 13 = .ok (.bipush 31, 2) := by decide +kernel
theorem dPg_init_15 : decode cPg_init 15 = .ok (.newarray .int, 2) := by decide +kernel
theorem dPg_init_17 : decode cPg_init 17 = .ok (.putfield 15, 3) := by decide +kernel
theorem dPg_init_20 : decode cPg_init 20 = .ok (.return_, 1) := by decide +kernel
abbrev cPg_add : ByteArray := prog_6_method_2_code
def yPg_add : MethodName := ⟨RPg, "add", "(II)I"⟩
def wsPg_add : List Cond := .code yPg_add cPg_add 3 (some .int) :: TB
theorem dPg_add_0 : decode cPg_add 0 = .ok (.iload_n 2, 1) := by decide +kernel
theorem dPg_add_1 : decode cPg_add 1 = .ok (.ifCond .lt 9, 3) := by decide +kernel
theorem dPg_add_4 : decode cPg_add 4 = .ok (.iload_n 2, 1) := by decide +kernel
theorem dPg_add_5 : decode cPg_add 5 = .ok (.bipush 9, 2) := by decide +kernel
theorem dPg_add_7 : decode cPg_add 7 = .ok (.if_icmp .le 6, 3) := by decide +kernel
theorem dPg_add_10 : decode cPg_add 10 = .ok (.bipush (-4), 2) := by decide +kernel
theorem dPg_add_12 : decode cPg_add 12 = .ok (.ireturn, 1) := by decide +kernel
theorem dPg_add_13 : decode cPg_add 13 = .ok (.aload_n 0, 1) := by decide +kernel
theorem dPg_add_14 : decode cPg_add 14 = .ok (.getfield 18, 3) := by decide +kernel
theorem dPg_add_17 : decode cPg_add 17 = .ok (.bipush 30, 2) := by decide +kernel
theorem dPg_add_19 : decode cPg_add 19 = .ok (.if_icmp .lt 5, 3) := by decide +kernel
theorem dPg_add_22 : decode cPg_add 22 = .ok (.iconst (-1), 1) := by decide +kernel
theorem dPg_add_23 : decode cPg_add 23 = .ok (.ireturn, 1) := by decide +kernel
theorem dPg_add_24 : decode cPg_add 24 = .ok (.aload_n 0, 1) := by decide +kernel
theorem dPg_add_25 : decode cPg_add 25 = .ok (.dup, 1) := by decide +kernel
theorem dPg_add_26 : decode cPg_add 26 = .ok (.getfield 18, 3) := by decide +kernel
theorem dPg_add_29 : decode cPg_add 29 = .ok (.iconst 1, 1) := by decide +kernel
theorem dPg_add_30 : decode cPg_add 30 = .ok (.iadd, 1) := by decide +kernel
theorem dPg_add_31 : decode cPg_add 31 = .ok (.putfield 18, 3) := by decide +kernel
theorem dPg_add_34 : decode cPg_add 34 = .ok (.aload_n 0, 1) := by decide +kernel
theorem dPg_add_35 : decode cPg_add 35 = .ok (.getfield 9, 3) := by decide +kernel
theorem dPg_add_38 : decode cPg_add 38 = .ok (.aload_n 0, 1) := by decide +kernel
theorem dPg_add_39 : decode cPg_add 39 = .ok (.getfield 18, 3) := by decide +kernel
theorem dPg_add_42 : decode cPg_add 42 = .ok (.iload_n 1, 1) := by decide +kernel
theorem dPg_add_43 : decode cPg_add 43 = .ok (.iastore, 1) := by decide +kernel
theorem dPg_add_44 : decode cPg_add 44 = .ok (.aload_n 0, 1) := by decide +kernel
theorem dPg_add_45 : decode cPg_add 45 = .ok (.getfield 15, 3) := by decide +kernel
theorem dPg_add_48 : decode cPg_add 48 = .ok (.aload_n 0, 1) := by decide +kernel
theorem dPg_add_49 : decode cPg_add 49 = .ok (.getfield 18, 3) := by decide +kernel
theorem dPg_add_52 : decode cPg_add 52 = .ok (.iload_n 2, 1) := by decide +kernel
theorem dPg_add_53 : decode cPg_add 53 = .ok (.iastore, 1) := by decide +kernel
theorem dPg_add_54 : decode cPg_add 54 = .ok (.aload_n 0, 1) := by decide +kernel
theorem dPg_add_55 : decode cPg_add 55 = .ok (.getfield 18, 3) := by decide +kernel
theorem dPg_add_58 : decode cPg_add 58 = .ok (.ireturn, 1) := by decide +kernel
abbrev cPg_has : ByteArray := prog_6_method_3_code
def yPg_has : MethodName := ⟨RPg, "has", "(I)Z"⟩
def wsPg_has : List Cond := .code yPg_has cPg_has 2 (some .boolean) :: TB
theorem dPg_has_0 : decode cPg_has 0 = .ok (.iload_n 1, 1) := by decide +kernel
theorem dPg_has_1 : decode cPg_has 1 = .ok (.iconst 1, 1) := by decide +kernel
theorem dPg_has_2 : decode cPg_has 2 = .ok (.if_icmp .lt 15, 3) := by decide +kernel
theorem dPg_has_5 : decode cPg_has 5 = .ok (.iload_n 1, 1) := by decide +kernel
theorem dPg_has_6 : decode cPg_has 6 = .ok (.aload_n 0, 1) := by decide +kernel
theorem dPg_has_7 : decode cPg_has 7 = .ok (.getfield 18, 3) := by decide +kernel
theorem dPg_has_10 : decode cPg_has 10 = .ok (.if_icmp .gt 7, 3) := by decide +kernel
theorem dPg_has_13 : decode cPg_has 13 = .ok (.iconst 1, 1) := by decide +kernel
theorem dPg_has_14 : decode cPg_has 14 = .ok (.goto 4, 3) := by decide +kernel
theorem dPg_has_17 : decode cPg_has 17 = .ok (.iconst 0, 1) := by decide +kernel
theorem dPg_has_18 : decode cPg_has 18 = .ok (.ireturn, 1) := by decide +kernel
abbrev cPg_rootOf : ByteArray := prog_6_method_4_code
def yPg_rootOf : MethodName := ⟨RPg, "rootOf", "(I)I"⟩
def wsPg_rootOf : List Cond := .code yPg_rootOf cPg_rootOf 2 (some .int) :: TB
theorem dPg_rootOf_0 : decode cPg_rootOf 0 = .ok (.iload_n 1, 1) := by decide +kernel
theorem dPg_rootOf_1 : decode cPg_rootOf 1 = .ok (.iconst 1, 1) := by decide +kernel
theorem dPg_rootOf_2 : decode cPg_rootOf 2 = .ok (.if_icmp .lt 20, 3) := by decide +kernel
theorem dPg_rootOf_5 : decode cPg_rootOf 5 = .ok (.iload_n 1, 1) := by decide +kernel
theorem dPg_rootOf_6 : decode cPg_rootOf 6 = .ok (.aload_n 0, 1) := by decide +kernel
theorem dPg_rootOf_7 : decode cPg_rootOf 7 = .ok (.getfield 18, 3) := by decide +kernel
theorem dPg_rootOf_10 : decode cPg_rootOf 10 = .ok (.if_icmp .gt 12, 3) := by decide +kernel
theorem dPg_rootOf_13 : decode cPg_rootOf 13 = .ok (.aload_n 0, 1) := by decide +kernel
theorem dPg_rootOf_14 : decode cPg_rootOf 14 = .ok (.getfield 9, 3) := by decide +kernel
theorem dPg_rootOf_17 : decode cPg_rootOf 17 = .ok (.iload_n 1, 1) := by decide +kernel
theorem dPg_rootOf_18 : decode cPg_rootOf 18 = .ok (.iaload, 1) := by decide +kernel
theorem dPg_rootOf_19 : decode cPg_rootOf 19 = .ok (.goto 4, 3) := by decide +kernel
theorem dPg_rootOf_22 : decode cPg_rootOf 22 = .ok (.iconst 0, 1) := by decide +kernel
theorem dPg_rootOf_23 : decode cPg_rootOf 23 = .ok (.ireturn, 1) := by decide +kernel
abbrev cPg_lastOfSection : ByteArray := prog_6_method_5_code
def yPg_lastOfSection : MethodName := ⟨RPg, "lastOfSection", "(I)I"⟩
def wsPg_lastOfSection : List Cond := .code yPg_lastOfSection cPg_lastOfSection 4 (some .int) :: TB
theorem dPg_lastOfSection_0 : decode cPg_lastOfSection 0 = .ok (.aload_n 0, 1) := by decide +kernel
theorem dPg_lastOfSection_1 : decode cPg_lastOfSection 1 = .ok (.iload_n 1, 1) := by decide +kernel
theorem dPg_lastOfSection_2 : decode cPg_lastOfSection 2 = .ok (.invokevirtual 22, 3) := by decide +kernel
theorem dPg_lastOfSection_5 : decode cPg_lastOfSection 5 = .ok (.ifCond .ne 5, 3) := by decide +kernel
theorem dPg_lastOfSection_8 : decode cPg_lastOfSection 8 = .ok (.iload_n 1, 1) := by decide +kernel
theorem dPg_lastOfSection_9 : decode cPg_lastOfSection 9 = .ok (.ireturn, 1) := by decide +kernel
theorem dPg_lastOfSection_10 : decode cPg_lastOfSection 10 = .ok (.iload_n 1, 1) := by decide +kernel
theorem dPg_lastOfSection_11 : decode cPg_lastOfSection 11 = .ok (.istore_n 2, 1) := by decide +kernel
theorem dPg_lastOfSection_12 : decode cPg_lastOfSection 12 = .ok (.iload_n 1, 1) := by decide +kernel
theorem dPg_lastOfSection_13 : decode cPg_lastOfSection 13 = .ok (.iconst 1, 1) := by decide +kernel
theorem dPg_lastOfSection_14 : decode cPg_lastOfSection 14 = .ok (.iadd, 1) := by decide +kernel
theorem dPg_lastOfSection_15 : decode cPg_lastOfSection 15 = .ok (.istore_n 3, 1) := by decide +kernel
theorem dPg_lastOfSection_16 : decode cPg_lastOfSection 16 = .ok (.iload_n 3, 1) := by decide +kernel
theorem dPg_lastOfSection_17 : decode cPg_lastOfSection 17 = .ok (.aload_n 0, 1) := by decide +kernel
theorem dPg_lastOfSection_18 : decode cPg_lastOfSection 18 = .ok (.getfield 18, 3) := by decide +kernel
theorem dPg_lastOfSection_21 : decode cPg_lastOfSection 21 = .ok (.if_icmp .gt 26, 3) := by decide +kernel
theorem dPg_lastOfSection_24 : decode cPg_lastOfSection 24 = .ok (.aload_n 0, 1) := by decide +kernel
theorem dPg_lastOfSection_25 : decode cPg_lastOfSection 25 = .ok (.getfield 15, 3) := by decide +kernel
theorem dPg_lastOfSection_28 : decode cPg_lastOfSection 28 = .ok (.iload_n 3, 1) := by decide +kernel
theorem dPg_lastOfSection_29 : decode cPg_lastOfSection 29 = .ok (.iaload, 1) := by decide +kernel
theorem dPg_lastOfSection_30 : decode cPg_lastOfSection 30 = .ok (.aload_n 0, 1) := by decide +kernel
theorem dPg_lastOfSection_31 : decode cPg_lastOfSection 31 = .ok (.getfield 15, 3) := by decide +kernel
theorem dPg_lastOfSection_34 : decode cPg_lastOfSection 34 = .ok (.iload_n 1, 1) := by decide +kernel
theorem dPg_lastOfSection_35 : decode cPg_lastOfSection 35 = .ok (.iaload, 1) := by decide +kernel
theorem dPg_lastOfSection_36 : decode cPg_lastOfSection 36 = .ok (.if_icmp .ne 11, 3) := by decide +kernel
theorem dPg_lastOfSection_39 : decode cPg_lastOfSection 39 = .ok (.iload_n 3, 1) := by decide +kernel
theorem dPg_lastOfSection_40 : decode cPg_lastOfSection 40 = .ok (.istore_n 2, 1) := by decide +kernel
theorem dPg_lastOfSection_41 : decode cPg_lastOfSection 41 = .ok (.iinc 3 1, 3) := by decide +kernel
theorem dPg_lastOfSection_44 : decode cPg_lastOfSection 44 = .ok (.goto (-28), 3) := by decide +kernel
theorem dPg_lastOfSection_47 : decode cPg_lastOfSection 47 = .ok (.iload_n 2, 1) := by decide +kernel
theorem dPg_lastOfSection_48 : decode cPg_lastOfSection 48 = .ok (.ireturn, 1) := by decide +kernel
