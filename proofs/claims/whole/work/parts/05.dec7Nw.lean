abbrev cNw_init : ByteArray := prog_4_method_1_code
def yNw_init : MethodName := ⟨RNw, "<init>", "(LParagraphWalk$Nodes;LParagraphWalk$Paragraphs;LParagraphWalk$Journey;LParagraphWalk$Stepper;)V"⟩
def wsNw_init : List Cond := .code yNw_init cNw_init 5 none :: TB
theorem dNw_init_0 : decode cNw_init 0 = .ok (.aload_n 0, 1) := by decide +kernel
theorem dNw_init_1 : decode cNw_init 1 = .ok (.invokespecial 3, 3) := by decide +kernel
theorem dNw_init_4 : decode cNw_init 4 = .ok (.aload_n 0, 1) := by decide +kernel
theorem dNw_init_5 : decode cNw_init 5 = .ok (.aload_n 1, 1) := by decide +kernel
theorem dNw_init_6 : decode cNw_init 6 = .ok (.putfield 9, 3) := by decide +kernel
theorem dNw_init_9 : decode cNw_init 9 = .ok (.aload_n 0, 1) := by decide +kernel
theorem dNw_init_10 : decode cNw_init 10 = .ok (.aload_n 2, 1) := by decide +kernel
theorem dNw_init_11 : decode cNw_init 11 = .ok (.putfield 15, 3) := by decide +kernel
theorem dNw_init_14 : decode cNw_init 14 = .ok (.aload_n 0, 1) := by decide +kernel
theorem dNw_init_15 : decode cNw_init 15 = .ok (.aload_n 3, 1) := by decide +kernel
theorem dNw_init_16 : decode cNw_init 16 = .ok (.putfield 19, 3) := by decide +kernel
theorem dNw_init_19 : decode cNw_init 19 = .ok (.aload_n 0, 1) := by decide +kernel
theorem dNw_init_20 : decode cNw_init 20 = .ok (.aload 4, 2) := by decide +kernel
theorem dNw_init_22 : decode cNw_init 22 = .ok (.putfield 23, 3) := by decide +kernel
theorem dNw_init_25 : decode cNw_init 25 = .ok (.return_, 1) := by decide +kernel
abbrev cNw_goFrom : ByteArray := prog_4_method_2_code
def yNw_goFrom : MethodName := ⟨RNw, "goFrom", "(I)V"⟩
def wsNw_goFrom : List Cond := .code yNw_goFrom cNw_goFrom 6 none :: TB
theorem dNw_goFrom_0 : decode cNw_goFrom 0 = .ok (.iload_n 1, 1) := by decide +kernel
theorem dNw_goFrom_1 : decode cNw_goFrom 1 = .ok (.istore_n 2, 1) := by decide +kernel
theorem dNw_goFrom_2 : decode cNw_goFrom 2 = .ok (.iconst 0, 1) := by decide +kernel
theorem dNw_goFrom_3 : decode cNw_goFrom 3 = .ok (.istore_n 3, 1) := by decide +kernel
theorem dNw_goFrom_4 : decode cNw_goFrom 4 = .ok (.iload_n 3, 1) := by decide +kernel
theorem dNw_goFrom_5 : decode cNw_goFrom 5 = .ok (.ldc 27, 2) := by decide +kernel
theorem dNw_goFrom_7 : decode cNw_goFrom 7 = .ok (.if_icmp .ge 90, 3) := by decide +kernel
theorem dNw_goFrom_10 : decode cNw_goFrom 10 = .ok (.aload_n 0, 1) := by decide +kernel
theorem dNw_goFrom_11 : decode cNw_goFrom 11 = .ok (.getfield 19, 3) := by decide +kernel
theorem dNw_goFrom_14 : decode cNw_goFrom 14 = .ok (.getfield 28, 3) := by decide +kernel
theorem dNw_goFrom_17 : decode cNw_goFrom 17 = .ok (.iconst 3, 1) := by decide +kernel
theorem dNw_goFrom_18 : decode cNw_goFrom 18 = .ok (.if_icmp .ne 79, 3) := by decide +kernel
theorem dNw_goFrom_21 : decode cNw_goFrom 21 = .ok (.aload_n 0, 1) := by decide +kernel
theorem dNw_goFrom_22 : decode cNw_goFrom 22 = .ok (.getfield 15, 3) := by decide +kernel
theorem dNw_goFrom_25 : decode cNw_goFrom 25 = .ok (.iload_n 2, 1) := by decide +kernel
theorem dNw_goFrom_26 : decode cNw_goFrom 26 = .ok (.invokevirtual 34, 3) := by decide +kernel
theorem dNw_goFrom_29 : decode cNw_goFrom 29 = .ok (.ifCond .ne 12, 3) := by decide +kernel
theorem dNw_goFrom_32 : decode cNw_goFrom 32 = .ok (.aload_n 0, 1) := by decide +kernel
theorem dNw_goFrom_33 : decode cNw_goFrom 33 = .ok (.getfield 19, 3) := by decide +kernel
theorem dNw_goFrom_36 : decode cNw_goFrom 36 = .ok (.lconst 0, 1) := by decide +kernel
theorem dNw_goFrom_37 : decode cNw_goFrom 37 = .ok (.invokevirtual 40, 3) := by decide +kernel
theorem dNw_goFrom_40 : decode cNw_goFrom 40 = .ok (.return_, 1) := by decide +kernel
theorem dNw_goFrom_41 : decode cNw_goFrom 41 = .ok (.aload_n 0, 1) := by decide +kernel
theorem dNw_goFrom_42 : decode cNw_goFrom 42 = .ok (.getfield 15, 3) := by decide +kernel
theorem dNw_goFrom_45 : decode cNw_goFrom 45 = .ok (.iload_n 2, 1) := by decide +kernel
theorem dNw_goFrom_46 : decode cNw_goFrom 46 = .ok (.invokevirtual 44, 3) := by decide +kernel
theorem dNw_goFrom_49 : decode cNw_goFrom 49 = .ok (.istore 4, 2) := by decide +kernel
theorem dNw_goFrom_51 : decode cNw_goFrom 51 = .ok (.iload 4, 2) := by decide +kernel
theorem dNw_goFrom_53 : decode cNw_goFrom 53 = .ok (.ifCond .ne 7, 3) := by decide +kernel
theorem dNw_goFrom_56 : decode cNw_goFrom 56 = .ok (.iconst 0, 1) := by decide +kernel
theorem dNw_goFrom_57 : decode cNw_goFrom 57 = .ok (.goto 11, 3) := by decide +kernel
theorem dNw_goFrom_60 : decode cNw_goFrom 60 = .ok (.aload_n 0, 1) := by decide +kernel
theorem dNw_goFrom_61 : decode cNw_goFrom 61 = .ok (.iload 4, 2) := by decide +kernel
theorem dNw_goFrom_63 : decode cNw_goFrom 63 = .ok (.iload_n 2, 1) := by decide +kernel
theorem dNw_goFrom_64 : decode cNw_goFrom 64 = .ok (.iconst 0, 1) := by decide +kernel
theorem dNw_goFrom_65 : decode cNw_goFrom 65 = .ok (.invokevirtual 48, 3) := by decide +kernel
theorem dNw_goFrom_68 : decode cNw_goFrom 68 = .ok (.istore 5, 2) := by decide +kernel
theorem dNw_goFrom_70 : decode cNw_goFrom 70 = .ok (.iload 5, 2) := by decide +kernel
theorem dNw_goFrom_72 : decode cNw_goFrom 72 = .ok (.bipush (-2), 2) := by decide +kernel
theorem dNw_goFrom_74 : decode cNw_goFrom 74 = .ok (.if_icmp .ne 13, 3) := by decide +kernel
theorem dNw_goFrom_77 : decode cNw_goFrom 77 = .ok (.aload_n 0, 1) := by decide +kernel
theorem dNw_goFrom_78 : decode cNw_goFrom 78 = .ok (.getfield 23, 3) := by decide +kernel
theorem dNw_goFrom_81 : decode cNw_goFrom 81 = .ok (.getfield 52, 3) := by decide +kernel
theorem dNw_goFrom_84 : decode cNw_goFrom 84 = .ok (.goto 6, 3) := by decide +kernel
theorem dNw_goFrom_87 : decode cNw_goFrom 87 = .ok (.iload_n 2, 1) := by decide +kernel
theorem dNw_goFrom_88 : decode cNw_goFrom 88 = .ok (.iconst 1, 1) := by decide +kernel
theorem dNw_goFrom_89 : decode cNw_goFrom 89 = .ok (.iadd, 1) := by decide +kernel
theorem dNw_goFrom_90 : decode cNw_goFrom 90 = .ok (.istore_n 2, 1) := by decide +kernel
theorem dNw_goFrom_91 : decode cNw_goFrom 91 = .ok (.iinc 3 1, 3) := by decide +kernel
theorem dNw_goFrom_94 : decode cNw_goFrom 94 = .ok (.goto (-90), 3) := by decide +kernel
theorem dNw_goFrom_97 : decode cNw_goFrom 97 = .ok (.return_, 1) := by decide +kernel
abbrev cNw_goInto : ByteArray := prog_4_method_3_code
def yNw_goInto : MethodName := ⟨RNw, "goInto", "(III)I"⟩
def wsNw_goInto : List Cond := .code yNw_goInto cNw_goInto 6 (some .int) :: TB
theorem dNw_goInto_0 : decode cNw_goInto 0 = .ok (.iload_n 3, 1) := by decide +kernel
theorem dNw_goInto_1 : decode cNw_goInto 1 = .ok (.sipush 200, 3) := by decide +kernel
theorem dNw_goInto_4 : decode cNw_goInto 4 = .ok (.if_icmp .le 5, 3) := by decide +kernel
theorem dNw_goInto_7 : decode cNw_goInto 7 = .ok (.iconst 0, 1) := by decide +kernel
theorem dNw_goInto_8 : decode cNw_goInto 8 = .ok (.ireturn, 1) := by decide +kernel
theorem dNw_goInto_9 : decode cNw_goInto 9 = .ok (.aload_n 0, 1) := by decide +kernel
theorem dNw_goInto_10 : decode cNw_goInto 10 = .ok (.getfield 9, 3) := by decide +kernel
theorem dNw_goInto_13 : decode cNw_goInto 13 = .ok (.iload_n 1, 1) := by decide +kernel
theorem dNw_goInto_14 : decode cNw_goInto 14 = .ok (.invokevirtual 57, 3) := by decide +kernel
theorem dNw_goInto_17 : decode cNw_goInto 17 = .ok (.istore 4, 2) := by decide +kernel
theorem dNw_goInto_19 : decode cNw_goInto 19 = .ok (.iload 4, 2) := by decide +kernel
theorem dNw_goInto_21 : decode cNw_goInto 21 = .ok (.bipush 10, 2) := by decide +kernel
theorem dNw_goInto_23 : decode cNw_goInto 23 = .ok (.if_icmp .ne 48, 3) := by decide +kernel
theorem dNw_goInto_26 : decode cNw_goInto 26 = .ok (.aload_n 0, 1) := by decide +kernel
theorem dNw_goInto_27 : decode cNw_goInto 27 = .ok (.aload_n 0, 1) := by decide +kernel
theorem dNw_goInto_28 : decode cNw_goInto 28 = .ok (.getfield 9, 3) := by decide +kernel
theorem dNw_goInto_31 : decode cNw_goInto 31 = .ok (.iload_n 1, 1) := by decide +kernel
theorem dNw_goInto_32 : decode cNw_goInto 32 = .ok (.invokevirtual 62, 3) := by decide +kernel
theorem dNw_goInto_35 : decode cNw_goInto 35 = .ok (.iload_n 2, 1) := by decide +kernel
theorem dNw_goInto_36 : decode cNw_goInto 36 = .ok (.iload_n 3, 1) := by decide +kernel
theorem dNw_goInto_37 : decode cNw_goInto 37 = .ok (.iconst 1, 1) := by decide +kernel
theorem dNw_goInto_38 : decode cNw_goInto 38 = .ok (.iadd, 1) := by decide +kernel
theorem dNw_goInto_39 : decode cNw_goInto 39 = .ok (.invokevirtual 48, 3) := by decide +kernel
theorem dNw_goInto_42 : decode cNw_goInto 42 = .ok (.istore 5, 2) := by decide +kernel
theorem dNw_goInto_44 : decode cNw_goInto 44 = .ok (.iload 5, 2) := by decide +kernel
theorem dNw_goInto_46 : decode cNw_goInto 46 = .ok (.ifCond .ne 22, 3) := by decide +kernel
theorem dNw_goInto_49 : decode cNw_goInto 49 = .ok (.aload_n 0, 1) := by decide +kernel
theorem dNw_goInto_50 : decode cNw_goInto 50 = .ok (.aload_n 0, 1) := by decide +kernel
theorem dNw_goInto_51 : decode cNw_goInto 51 = .ok (.getfield 9, 3) := by decide +kernel
theorem dNw_goInto_54 : decode cNw_goInto 54 = .ok (.iload_n 1, 1) := by decide +kernel
theorem dNw_goInto_55 : decode cNw_goInto 55 = .ok (.invokevirtual 65, 3) := by decide +kernel
theorem dNw_goInto_58 : decode cNw_goInto 58 = .ok (.iload_n 2, 1) := by decide +kernel
theorem dNw_goInto_59 : decode cNw_goInto 59 = .ok (.iload_n 3, 1) := by decide +kernel
theorem dNw_goInto_60 : decode cNw_goInto 60 = .ok (.iconst 1, 1) := by decide +kernel
theorem dNw_goInto_61 : decode cNw_goInto 61 = .ok (.iadd, 1) := by decide +kernel
theorem dNw_goInto_62 : decode cNw_goInto 62 = .ok (.invokevirtual 48, 3) := by decide +kernel
theorem dNw_goInto_65 : decode cNw_goInto 65 = .ok (.goto 5, 3) := by decide +kernel
theorem dNw_goInto_68 : decode cNw_goInto 68 = .ok (.iload 5, 2) := by decide +kernel
theorem dNw_goInto_70 : decode cNw_goInto 70 = .ok (.ireturn, 1) := by decide +kernel
theorem dNw_goInto_71 : decode cNw_goInto 71 = .ok (.iload 4, 2) := by decide +kernel
theorem dNw_goInto_73 : decode cNw_goInto 73 = .ok (.bipush 22, 2) := by decide +kernel
theorem dNw_goInto_75 : decode cNw_goInto 75 = .ok (.if_icmp .ne 34, 3) := by decide +kernel
theorem dNw_goInto_78 : decode cNw_goInto 78 = .ok (.aload_n 0, 1) := by decide +kernel
theorem dNw_goInto_79 : decode cNw_goInto 79 = .ok (.aload_n 0, 1) := by decide +kernel
theorem dNw_goInto_80 : decode cNw_goInto 80 = .ok (.getfield 9, 3) := by decide +kernel
theorem dNw_goInto_83 : decode cNw_goInto 83 = .ok (.iload_n 1, 1) := by decide +kernel
theorem dNw_goInto_84 : decode cNw_goInto 84 = .ok (.invokevirtual 62, 3) := by decide +kernel
theorem dNw_goInto_87 : decode cNw_goInto 87 = .ok (.iload_n 2, 1) := by decide +kernel
theorem dNw_goInto_88 : decode cNw_goInto 88 = .ok (.iload_n 3, 1) := by decide +kernel
theorem dNw_goInto_89 : decode cNw_goInto 89 = .ok (.iconst 1, 1) := by decide +kernel
theorem dNw_goInto_90 : decode cNw_goInto 90 = .ok (.iadd, 1) := by decide +kernel
theorem dNw_goInto_91 : decode cNw_goInto 91 = .ok (.invokevirtual 48, 3) := by decide +kernel
theorem dNw_goInto_94 : decode cNw_goInto 94 = .ok (.istore 5, 2) := by decide +kernel
theorem dNw_goInto_96 : decode cNw_goInto 96 = .ok (.iload 5, 2) := by decide +kernel
theorem dNw_goInto_98 : decode cNw_goInto 98 = .ok (.iconst (-1), 1) := by decide +kernel
theorem dNw_goInto_99 : decode cNw_goInto 99 = .ok (.if_icmp .ne 7, 3) := by decide +kernel
theorem dNw_goInto_102 : decode cNw_goInto 102 = .ok (.iconst 0, 1) := by decide +kernel
theorem dNw_goInto_103 : decode cNw_goInto 103 = .ok (.goto 5, 3) := by decide +kernel
theorem dNw_goInto_106 : decode cNw_goInto 106 = .ok (.iload 5, 2) := by decide +kernel
theorem dNw_goInto_108 : decode cNw_goInto 108 = .ok (.ireturn, 1) := by decide +kernel
theorem dNw_goInto_109 : decode cNw_goInto 109 = .ok (.aload_n 0, 1) := by decide +kernel
theorem dNw_goInto_110 : decode cNw_goInto 110 = .ok (.getfield 23, 3) := by decide +kernel
theorem dNw_goInto_113 : decode cNw_goInto 113 = .ok (.iload_n 1, 1) := by decide +kernel
theorem dNw_goInto_114 : decode cNw_goInto 114 = .ok (.iload_n 2, 1) := by decide +kernel
theorem dNw_goInto_115 : decode cNw_goInto 115 = .ok (.invokevirtual 68, 3) := by decide +kernel
theorem dNw_goInto_118 : decode cNw_goInto 118 = .ok (.istore 5, 2) := by decide +kernel
theorem dNw_goInto_120 : decode cNw_goInto 120 = .ok (.iload 5, 2) := by decide +kernel
theorem dNw_goInto_122 : decode cNw_goInto 122 = .ok (.ifCond .le 16, 3) := by decide +kernel
theorem dNw_goInto_125 : decode cNw_goInto 125 = .ok (.aload_n 0, 1) := by decide +kernel
theorem dNw_goInto_126 : decode cNw_goInto 126 = .ok (.iload 5, 2) := by decide +kernel
theorem dNw_goInto_128 : decode cNw_goInto 128 = .ok (.iload_n 2, 1) := by decide +kernel
theorem dNw_goInto_129 : decode cNw_goInto 129 = .ok (.iload_n 3, 1) := by decide +kernel
theorem dNw_goInto_130 : decode cNw_goInto 130 = .ok (.iconst 1, 1) := by decide +kernel
theorem dNw_goInto_131 : decode cNw_goInto 131 = .ok (.iadd, 1) := by decide +kernel
theorem dNw_goInto_132 : decode cNw_goInto 132 = .ok (.invokevirtual 48, 3) := by decide +kernel
theorem dNw_goInto_135 : decode cNw_goInto 135 = .ok (.goto 5, 3) := by decide +kernel
theorem dNw_goInto_138 : decode cNw_goInto 138 = .ok (.iload 5, 2) := by decide +kernel
theorem dNw_goInto_140 : decode cNw_goInto 140 = .ok (.ireturn, 1) := by decide +kernel
