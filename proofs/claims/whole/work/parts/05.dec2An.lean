abbrev cAn_init : ByteArray := prog_2_method_1_code
def yAn_init : MethodName := ⟨RAn, "<init>", "()V"⟩
def wsAn_init : List Cond := .code yAn_init cAn_init 1 none :: TB
theorem dAn_init_0 : decode cAn_init 0 = .ok (.aload_n 0, 1) := by decide +kernel
theorem dAn_init_1 : decode cAn_init 1 = .ok (.invokespecial 3, 3) := by decide +kernel
theorem dAn_init_4 : decode cAn_init 4 = .ok (.aload_n 0, 1) := by decide +kernel
theorem dAn_init_5 : decode cAn_init 5 = .ok (.sipush 4020, 3) := by decide +kernel
theorem dAn_init_8 : decode cAn_init 8 = .ok (.newarray .byte, 2) := by decide +kernel
theorem dAn_init_10 : decode cAn_init 10 = .ok (.putfield 9, 3) := by decide +kernel
theorem dAn_init_13 : decode cAn_init 13 = .ok (.aload_n 0, 1) := by decide +kernel
theorem dAn_init_14 : decode cAn_init 14 = .ok (.sipush 201, 3) := by decide +kernel
theorem dAn_init_17 : decode cAn_init 17 = .ok (.newarray .int, 2) := by decide +kernel
theorem dAn_init_19 : decode cAn_init 19 = .ok (.putfield 15, 3) := by decide +kernel
theorem dAn_init_22 : decode cAn_init 22 = .ok (.return_, 1) := by decide +kernel
abbrev cAn_tell : ByteArray := prog_2_method_2_code
def yAn_tell : MethodName := ⟨RAn, "tell", "(III)I"⟩
def wsAn_tell : List Cond := .code yAn_tell cAn_tell 4 (some .int) :: TB
theorem dAn_tell_0 : decode cAn_tell 0 = .ok (.iload_n 1, 1) := by decide +kernel
theorem dAn_tell_1 : decode cAn_tell 1 = .ok (.ifCond .lt 12, 3) := by decide +kernel
theorem dAn_tell_4 : decode cAn_tell 4 = .ok (.iload_n 1, 1) := by decide +kernel
theorem dAn_tell_5 : decode cAn_tell 5 = .ok (.aload_n 0, 1) := by decide +kernel
theorem dAn_tell_6 : decode cAn_tell 6 = .ok (.getfield 15, 3) := by decide +kernel
theorem dAn_tell_9 : decode cAn_tell 9 = .ok (.arraylength, 1) := by decide +kernel
theorem dAn_tell_10 : decode cAn_tell 10 = .ok (.if_icmp .lt 6, 3) := by decide +kernel
theorem dAn_tell_13 : decode cAn_tell 13 = .ok (.bipush (-2), 2) := by decide +kernel
theorem dAn_tell_15 : decode cAn_tell 15 = .ok (.ireturn, 1) := by decide +kernel
theorem dAn_tell_16 : decode cAn_tell 16 = .ok (.aload_n 0, 1) := by decide +kernel
theorem dAn_tell_17 : decode cAn_tell 17 = .ok (.getfield 15, 3) := by decide +kernel
theorem dAn_tell_20 : decode cAn_tell 20 = .ok (.iload_n 1, 1) := by decide +kernel
theorem dAn_tell_21 : decode cAn_tell 21 = .ok (.iaload, 1) := by decide +kernel
theorem dAn_tell_22 : decode cAn_tell 22 = .ok (.iload_n 3, 1) := by decide +kernel
theorem dAn_tell_23 : decode cAn_tell 23 = .ok (.isub, 1) := by decide +kernel
theorem dAn_tell_24 : decode cAn_tell 24 = .ok (.bipush 20, 2) := by decide +kernel
theorem dAn_tell_26 : decode cAn_tell 26 = .ok (.if_icmp .lt 5, 3) := by decide +kernel
theorem dAn_tell_29 : decode cAn_tell 29 = .ok (.iconst (-1), 1) := by decide +kernel
theorem dAn_tell_30 : decode cAn_tell 30 = .ok (.ireturn, 1) := by decide +kernel
theorem dAn_tell_31 : decode cAn_tell 31 = .ok (.aload_n 0, 1) := by decide +kernel
theorem dAn_tell_32 : decode cAn_tell 32 = .ok (.getfield 9, 3) := by decide +kernel
theorem dAn_tell_35 : decode cAn_tell 35 = .ok (.iload_n 1, 1) := by decide +kernel
theorem dAn_tell_36 : decode cAn_tell 36 = .ok (.bipush 20, 2) := by decide +kernel
theorem dAn_tell_38 : decode cAn_tell 38 = .ok (.imul, 1) := by decide +kernel
theorem dAn_tell_39 : decode cAn_tell 39 = .ok (.aload_n 0, 1) := by decide +kernel
theorem dAn_tell_40 : decode cAn_tell 40 = .ok (.getfield 15, 3) := by decide +kernel
theorem dAn_tell_43 : decode cAn_tell 43 = .ok (.iload_n 1, 1) := by decide +kernel
theorem dAn_tell_44 : decode cAn_tell 44 = .ok (.iaload, 1) := by decide +kernel
theorem dAn_tell_45 : decode cAn_tell 45 = .ok (.bipush 20, 2) := by decide +kernel
theorem dAn_tell_47 : decode cAn_tell 47 = .ok (.invokestatic 19, 3) := by decide +kernel
theorem dAn_tell_50 : decode cAn_tell 50 = .ok (.iadd, 1) := by decide +kernel
theorem dAn_tell_51 : decode cAn_tell 51 = .ok (.iload_n 2, 1) := by decide +kernel
theorem dAn_tell_52 : decode cAn_tell 52 = .ok (.i2b, 1) := by decide +kernel
theorem dAn_tell_53 : decode cAn_tell 53 = .ok (.bastore, 1) := by decide +kernel
theorem dAn_tell_54 : decode cAn_tell 54 = .ok (.aload_n 0, 1) := by decide +kernel
theorem dAn_tell_55 : decode cAn_tell 55 = .ok (.getfield 15, 3) := by decide +kernel
theorem dAn_tell_58 : decode cAn_tell 58 = .ok (.iload_n 1, 1) := by decide +kernel
theorem dAn_tell_59 : decode cAn_tell 59 = .ok (.dup2, 1) := by decide +kernel
theorem dAn_tell_60 : decode cAn_tell 60 = .ok (.iaload, 1) := by decide +kernel
theorem dAn_tell_61 : decode cAn_tell 61 = .ok (.iconst 1, 1) := by decide +kernel
theorem dAn_tell_62 : decode cAn_tell 62 = .ok (.iadd, 1) := by decide +kernel
theorem dAn_tell_63 : decode cAn_tell 63 = .ok (.iastore, 1) := by decide +kernel
theorem dAn_tell_64 : decode cAn_tell 64 = .ok (.aload_n 0, 1) := by decide +kernel
theorem dAn_tell_65 : decode cAn_tell 65 = .ok (.getfield 15, 3) := by decide +kernel
theorem dAn_tell_68 : decode cAn_tell 68 = .ok (.iload_n 1, 1) := by decide +kernel
theorem dAn_tell_69 : decode cAn_tell 69 = .ok (.iaload, 1) := by decide +kernel
theorem dAn_tell_70 : decode cAn_tell 70 = .ok (.iload_n 3, 1) := by decide +kernel
theorem dAn_tell_71 : decode cAn_tell 71 = .ok (.isub, 1) := by decide +kernel
theorem dAn_tell_72 : decode cAn_tell 72 = .ok (.ireturn, 1) := by decide +kernel
abbrev cAn_waiting : ByteArray := prog_2_method_3_code
def yAn_waiting : MethodName := ⟨RAn, "waiting", "(II)I"⟩
def wsAn_waiting : List Cond := .code yAn_waiting cAn_waiting 3 (some .int) :: TB
theorem dAn_waiting_0 : decode cAn_waiting 0 = .ok (.iload_n 1, 1) := by decide +kernel
theorem dAn_waiting_1 : decode cAn_waiting 1 = .ok (.ifCond .lt 23, 3) := by decide +kernel
theorem dAn_waiting_4 : decode cAn_waiting 4 = .ok (.iload_n 1, 1) := by decide +kernel
theorem dAn_waiting_5 : decode cAn_waiting 5 = .ok (.aload_n 0, 1) := by decide +kernel
theorem dAn_waiting_6 : decode cAn_waiting 6 = .ok (.getfield 15, 3) := by decide +kernel
theorem dAn_waiting_9 : decode cAn_waiting 9 = .ok (.arraylength, 1) := by decide +kernel
theorem dAn_waiting_10 : decode cAn_waiting 10 = .ok (.if_icmp .ge 14, 3) := by decide +kernel
theorem dAn_waiting_13 : decode cAn_waiting 13 = .ok (.aload_n 0, 1) := by decide +kernel
theorem dAn_waiting_14 : decode cAn_waiting 14 = .ok (.getfield 15, 3) := by decide +kernel
theorem dAn_waiting_17 : decode cAn_waiting 17 = .ok (.iload_n 1, 1) := by decide +kernel
theorem dAn_waiting_18 : decode cAn_waiting 18 = .ok (.iaload, 1) := by decide +kernel
theorem dAn_waiting_19 : decode cAn_waiting 19 = .ok (.iload_n 2, 1) := by decide +kernel
theorem dAn_waiting_20 : decode cAn_waiting 20 = .ok (.isub, 1) := by decide +kernel
theorem dAn_waiting_21 : decode cAn_waiting 21 = .ok (.goto 4, 3) := by decide +kernel
theorem dAn_waiting_24 : decode cAn_waiting 24 = .ok (.iconst 0, 1) := by decide +kernel
theorem dAn_waiting_25 : decode cAn_waiting 25 = .ok (.ireturn, 1) := by decide +kernel
abbrev cAn_nextOf : ByteArray := prog_2_method_4_code
def yAn_nextOf : MethodName := ⟨RAn, "nextOf", "(II)I"⟩
def wsAn_nextOf : List Cond := .code yAn_nextOf cAn_nextOf 3 (some .int) :: TB
theorem dAn_nextOf_0 : decode cAn_nextOf 0 = .ok (.iload_n 1, 1) := by decide +kernel
theorem dAn_nextOf_1 : decode cAn_nextOf 1 = .ok (.ifCond .lt 12, 3) := by decide +kernel
theorem dAn_nextOf_4 : decode cAn_nextOf 4 = .ok (.iload_n 1, 1) := by decide +kernel
theorem dAn_nextOf_5 : decode cAn_nextOf 5 = .ok (.aload_n 0, 1) := by decide +kernel
theorem dAn_nextOf_6 : decode cAn_nextOf 6 = .ok (.getfield 15, 3) := by decide +kernel
theorem dAn_nextOf_9 : decode cAn_nextOf 9 = .ok (.arraylength, 1) := by decide +kernel
theorem dAn_nextOf_10 : decode cAn_nextOf 10 = .ok (.if_icmp .lt 5, 3) := by decide +kernel
theorem dAn_nextOf_13 : decode cAn_nextOf 13 = .ok (.iconst 0, 1) := by decide +kernel
theorem dAn_nextOf_14 : decode cAn_nextOf 14 = .ok (.ireturn, 1) := by decide +kernel
theorem dAn_nextOf_15 : decode cAn_nextOf 15 = .ok (.aload_n 0, 1) := by decide +kernel
theorem dAn_nextOf_16 : decode cAn_nextOf 16 = .ok (.getfield 9, 3) := by decide +kernel
theorem dAn_nextOf_19 : decode cAn_nextOf 19 = .ok (.iload_n 1, 1) := by decide +kernel
theorem dAn_nextOf_20 : decode cAn_nextOf 20 = .ok (.bipush 20, 2) := by decide +kernel
theorem dAn_nextOf_22 : decode cAn_nextOf 22 = .ok (.imul, 1) := by decide +kernel
theorem dAn_nextOf_23 : decode cAn_nextOf 23 = .ok (.iload_n 2, 1) := by decide +kernel
theorem dAn_nextOf_24 : decode cAn_nextOf 24 = .ok (.bipush 20, 2) := by decide +kernel
theorem dAn_nextOf_26 : decode cAn_nextOf 26 = .ok (.invokestatic 19, 3) := by decide +kernel
theorem dAn_nextOf_29 : decode cAn_nextOf 29 = .ok (.iadd, 1) := by decide +kernel
theorem dAn_nextOf_30 : decode cAn_nextOf 30 = .ok (.baload, 1) := by decide +kernel
theorem dAn_nextOf_31 : decode cAn_nextOf 31 = .ok (.ireturn, 1) := by decide +kernel
