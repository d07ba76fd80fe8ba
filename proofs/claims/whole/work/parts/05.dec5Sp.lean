abbrev cSp_init : ByteArray := prog_9_method_1_code
def ySp_init : MethodName := ⟨RSp, "<init>", "(LParagraphWalk$Nodes;LParagraphWalk$Paragraphs;LParagraphWalk$Answers;LParagraphWalk$Scene;LParagraphWalk$Journey;)V"⟩
def wsSp_init : List Cond := .code ySp_init cSp_init 6 none :: TB
theorem dSp_init_0 : decode cSp_init 0 = .ok (.aload_n 0, 1) := by decide +kernel
theorem dSp_init_1 : decode cSp_init 1 = .ok (.invokespecial 3, 3) := by decide +kernel
theorem dSp_init_4 : decode cSp_init 4 = .ok (.aload_n 0, 1) := by decide +kernel
theorem dSp_init_5 : decode cSp_init 5 = .ok (.aload_n 1, 1) := by decide +kernel
theorem dSp_init_6 : decode cSp_init 6 = .ok (.putfield 9, 3) := by decide +kernel
theorem dSp_init_9 : decode cSp_init 9 = .ok (.aload_n 0, 1) := by decide +kernel
theorem dSp_init_10 : decode cSp_init 10 = .ok (.aload_n 2, 1) := by decide +kernel
theorem dSp_init_11 : decode cSp_init 11 = .ok (.putfield 15, 3) := by decide +kernel
theorem dSp_init_14 : decode cSp_init 14 = .ok (.aload_n 0, 1) := by decide +kernel
theorem dSp_init_15 : decode cSp_init 15 = .ok (.aload_n 3, 1) := by decide +kernel
theorem dSp_init_16 : decode cSp_init 16 = .ok (.putfield 19, 3) := by decide +kernel
theorem dSp_init_19 : decode cSp_init 19 = .ok (.aload_n 0, 1) := by decide +kernel
theorem dSp_init_20 : decode cSp_init 20 = .ok (.aload 4, 2) := by decide +kernel
theorem dSp_init_22 : decode cSp_init 22 = .ok (.putfield 23, 3) := by decide +kernel
theorem dSp_init_25 : decode cSp_init 25 = .ok (.aload_n 0, 1) := by decide +kernel
theorem dSp_init_26 : decode cSp_init 26 = .ok (.aload 5, 2) := by decide +kernel
theorem dSp_init_28 : decode cSp_init 28 = .ok (.putfield 27, 3) := by decide +kernel
theorem dSp_init_31 : decode cSp_init 31 = .ok (.return_, 1) := by decide +kernel
abbrev cSp_step : ByteArray := prog_9_method_2_code
def ySp_step : MethodName := ⟨RSp, "step", "(II)I"⟩
def wsSp_step : List Cond := .code ySp_step cSp_step 7 (some .int) :: TB
theorem dSp_step_0 : decode cSp_step 0 = .ok (.aload_n 0, 1) := by decide +kernel
theorem dSp_step_1 : decode cSp_step 1 = .ok (.getfield 27, 3) := by decide +kernel
theorem dSp_step_4 : decode cSp_step 4 = .ok (.iload_n 1, 1) := by decide +kernel
theorem dSp_step_5 : decode cSp_step 5 = .ok (.invokevirtual 31, 3) := by decide +kernel
theorem dSp_step_8 : decode cSp_step 8 = .ok (.ifCond .ne 6, 3) := by decide +kernel
theorem dSp_step_11 : decode cSp_step 11 = .ok (.bipush (-3), 2) := by decide +kernel
theorem dSp_step_13 : decode cSp_step 13 = .ok (.ireturn, 1) := by decide +kernel
theorem dSp_step_14 : decode cSp_step 14 = .ok (.aload_n 0, 1) := by decide +kernel
theorem dSp_step_15 : decode cSp_step 15 = .ok (.iconst 0, 1) := by decide +kernel
theorem dSp_step_16 : decode cSp_step 16 = .ok (.putfield 37, 3) := by decide +kernel
theorem dSp_step_19 : decode cSp_step 19 = .ok (.aload_n 0, 1) := by decide +kernel
theorem dSp_step_20 : decode cSp_step 20 = .ok (.getfield 9, 3) := by decide +kernel
theorem dSp_step_23 : decode cSp_step 23 = .ok (.iload_n 1, 1) := by decide +kernel
theorem dSp_step_24 : decode cSp_step 24 = .ok (.invokevirtual 41, 3) := by decide +kernel
theorem dSp_step_27 : decode cSp_step 27 = .ok (.istore_n 3, 1) := by decide +kernel
theorem dSp_step_28 : decode cSp_step 28 = .ok (.iload_n 3, 1) := by decide +kernel
theorem dSp_step_29 : decode cSp_step 29 = .ok (.ifCond .ne 7, 3) := by decide +kernel
theorem dSp_step_32 : decode cSp_step 32 = .ok (.lconst 0, 1) := by decide +kernel
theorem dSp_step_33 : decode cSp_step 33 = .ok (.goto 9, 3) := by decide +kernel
theorem dSp_step_36 : decode cSp_step 36 = .ok (.aload_n 0, 1) := by decide +kernel
theorem dSp_step_37 : decode cSp_step 37 = .ok (.iload_n 3, 1) := by decide +kernel
theorem dSp_step_38 : decode cSp_step 38 = .ok (.iconst 0, 1) := by decide +kernel
theorem dSp_step_39 : decode cSp_step 39 = .ok (.invokevirtual 47, 3) := by decide +kernel
theorem dSp_step_42 : decode cSp_step 42 = .ok (.lstore 4, 2) := by decide +kernel
theorem dSp_step_44 : decode cSp_step 44 = .ok (.aload_n 0, 1) := by decide +kernel
theorem dSp_step_45 : decode cSp_step 45 = .ok (.getfield 9, 3) := by decide +kernel
theorem dSp_step_48 : decode cSp_step 48 = .ok (.iload_n 1, 1) := by decide +kernel
theorem dSp_step_49 : decode cSp_step 49 = .ok (.invokevirtual 51, 3) := by decide +kernel
theorem dSp_step_52 : decode cSp_step 52 = .ok (.bipush 14, 2) := by decide +kernel
theorem dSp_step_54 : decode cSp_step 54 = .ok (.if_icmp .ne 20, 3) := by decide +kernel
theorem dSp_step_57 : decode cSp_step 57 = .ok (.aload_n 0, 1) := by decide +kernel
theorem dSp_step_58 : decode cSp_step 58 = .ok (.aload_n 0, 1) := by decide +kernel
theorem dSp_step_59 : decode cSp_step 59 = .ok (.getfield 9, 3) := by decide +kernel
theorem dSp_step_62 : decode cSp_step 62 = .ok (.iload_n 1, 1) := by decide +kernel
theorem dSp_step_63 : decode cSp_step 63 = .ok (.invokevirtual 54, 3) := by decide +kernel
theorem dSp_step_66 : decode cSp_step 66 = .ok (.lload 4, 2) := by decide +kernel
theorem dSp_step_68 : decode cSp_step 68 = .ok (.invokevirtual 57, 3) := by decide +kernel
theorem dSp_step_71 : decode cSp_step 71 = .ok (.goto 4, 3) := by decide +kernel
theorem dSp_step_74 : decode cSp_step 74 = .ok (.iconst 0, 1) := by decide +kernel
theorem dSp_step_75 : decode cSp_step 75 = .ok (.istore 6, 2) := by decide +kernel
theorem dSp_step_77 : decode cSp_step 77 = .ok (.aload_n 0, 1) := by decide +kernel
theorem dSp_step_78 : decode cSp_step 78 = .ok (.getfield 37, 3) := by decide +kernel
theorem dSp_step_81 : decode cSp_step 81 = .ok (.ifCond .eq 14, 3) := by decide +kernel
theorem dSp_step_84 : decode cSp_step 84 = .ok (.aload_n 0, 1) := by decide +kernel
theorem dSp_step_85 : decode cSp_step 85 = .ok (.getfield 27, 3) := by decide +kernel
theorem dSp_step_88 : decode cSp_step 88 = .ok (.iconst 1, 1) := by decide +kernel
theorem dSp_step_89 : decode cSp_step 89 = .ok (.invokevirtual 61, 3) := by decide +kernel
theorem dSp_step_92 : decode cSp_step 92 = .ok (.bipush (-3), 2) := by decide +kernel
theorem dSp_step_94 : decode cSp_step 94 = .ok (.ireturn, 1) := by decide +kernel
theorem dSp_step_95 : decode cSp_step 95 = .ok (.aload_n 0, 1) := by decide +kernel
theorem dSp_step_96 : decode cSp_step 96 = .ok (.iload_n 1, 1) := by decide +kernel
theorem dSp_step_97 : decode cSp_step 97 = .ok (.iload_n 2, 1) := by decide +kernel
theorem dSp_step_98 : decode cSp_step 98 = .ok (.lload 4, 2) := by decide +kernel
theorem dSp_step_100 : decode cSp_step 100 = .ok (.iload 6, 2) := by decide +kernel
theorem dSp_step_102 : decode cSp_step 102 = .ok (.invokevirtual 65, 3) := by decide +kernel
theorem dSp_step_105 : decode cSp_step 105 = .ok (.ireturn, 1) := by decide +kernel
abbrev cSp_act : ByteArray := prog_9_method_3_code
def ySp_act : MethodName := ⟨RSp, "act", "(IIJI)I"⟩
def wsSp_act : List Cond := .code ySp_act cSp_act 8 (some .int) :: TB
theorem dSp_act_0 : decode cSp_act 0 = .ok (.aload_n 0, 1) := by decide +kernel
theorem dSp_act_1 : decode cSp_act 1 = .ok (.getfield 9, 3) := by decide +kernel
theorem dSp_act_4 : decode cSp_act 4 = .ok (.iload_n 1, 1) := by decide +kernel
theorem dSp_act_5 : decode cSp_act 5 = .ok (.invokevirtual 69, 3) := by decide +kernel
theorem dSp_act_8 : decode cSp_act 8 = .ok (.istore 6, 2) := by decide +kernel
theorem dSp_act_10 : decode cSp_act 10 = .ok (.aload_n 0, 1) := by decide +kernel
theorem dSp_act_11 : decode cSp_act 11 = .ok (.getfield 9, 3) := by decide +kernel
theorem dSp_act_14 : decode cSp_act 14 = .ok (.iload_n 1, 1) := by decide +kernel
theorem dSp_act_15 : decode cSp_act 15 = .ok (.invokevirtual 54, 3) := by decide +kernel
theorem dSp_act_18 : decode cSp_act 18 = .ok (.istore 7, 2) := by decide +kernel
theorem dSp_act_20 : decode cSp_act 20 = .ok (.aload_n 0, 1) := by decide +kernel
theorem dSp_act_21 : decode cSp_act 21 = .ok (.getfield 9, 3) := by decide +kernel
theorem dSp_act_24 : decode cSp_act 24 = .ok (.iload_n 1, 1) := by decide +kernel
theorem dSp_act_25 : decode cSp_act 25 = .ok (.invokevirtual 51, 3) := by decide +kernel
theorem dSp_act_28 : decode cSp_act 28 = .ok (.tableswitch 226 9 25 #[84, 226, 96, 109, 226, 137, 226, 226, 140, 147, 177, 226, 199, 226, 201, 201, 212], 84) := by decide +kernel
theorem dSp_act_112 : decode cSp_act 112 = .ok (.aload_n 0, 1) := by decide +kernel
theorem dSp_act_113 : decode cSp_act 113 = .ok (.getfield 23, 3) := by decide +kernel
theorem dSp_act_116 : decode cSp_act 116 = .ok (.iload 6, 2) := by decide +kernel
theorem dSp_act_118 : decode cSp_act 118 = .ok (.lload_n 3, 1) := by decide +kernel
theorem dSp_act_119 : decode cSp_act 119 = .ok (.invokevirtual 72, 3) := by decide +kernel
theorem dSp_act_122 : decode cSp_act 122 = .ok (.iconst 0, 1) := by decide +kernel
theorem dSp_act_123 : decode cSp_act 123 = .ok (.ireturn, 1) := by decide +kernel
theorem dSp_act_124 : decode cSp_act 124 = .ok (.lload_n 3, 1) := by decide +kernel
theorem dSp_act_125 : decode cSp_act 125 = .ok (.lconst 0, 1) := by decide +kernel
theorem dSp_act_126 : decode cSp_act 126 = .ok (.lcmp, 1) := by decide +kernel
theorem dSp_act_127 : decode cSp_act 127 = .ok (.ifCond .eq 8, 3) := by decide +kernel
theorem dSp_act_130 : decode cSp_act 130 = .ok (.iload 7, 2) := by decide +kernel
theorem dSp_act_132 : decode cSp_act 132 = .ok (.goto 4, 3) := by decide +kernel
theorem dSp_act_135 : decode cSp_act 135 = .ok (.iconst 0, 1) := by decide +kernel
theorem dSp_act_136 : decode cSp_act 136 = .ok (.ireturn, 1) := by decide +kernel
theorem dSp_act_137 : decode cSp_act 137 = .ok (.lload_n 3, 1) := by decide +kernel
theorem dSp_act_138 : decode cSp_act 138 = .ok (.lconst 0, 1) := by decide +kernel
theorem dSp_act_139 : decode cSp_act 139 = .ok (.lcmp, 1) := by decide +kernel
theorem dSp_act_140 : decode cSp_act 140 = .ok (.ifCond .eq 15, 3) := by decide +kernel
theorem dSp_act_143 : decode cSp_act 143 = .ok (.aload_n 0, 1) := by decide +kernel
theorem dSp_act_144 : decode cSp_act 144 = .ok (.getfield 9, 3) := by decide +kernel
theorem dSp_act_147 : decode cSp_act 147 = .ok (.iload 7, 2) := by decide +kernel
theorem dSp_act_149 : decode cSp_act 149 = .ok (.invokevirtual 69, 3) := by decide +kernel
theorem dSp_act_152 : decode cSp_act 152 = .ok (.goto 12, 3) := by decide +kernel
theorem dSp_act_155 : decode cSp_act 155 = .ok (.aload_n 0, 1) := by decide +kernel
theorem dSp_act_156 : decode cSp_act 156 = .ok (.getfield 9, 3) := by decide +kernel
theorem dSp_act_159 : decode cSp_act 159 = .ok (.iload 7, 2) := by decide +kernel
theorem dSp_act_161 : decode cSp_act 161 = .ok (.invokevirtual 54, 3) := by decide +kernel
theorem dSp_act_164 : decode cSp_act 164 = .ok (.ireturn, 1) := by decide +kernel
theorem dSp_act_165 : decode cSp_act 165 = .ok (.iload 5, 2) := by decide +kernel
theorem dSp_act_167 : decode cSp_act 167 = .ok (.ireturn, 1) := by decide +kernel
theorem dSp_act_168 : decode cSp_act 168 = .ok (.aload_n 0, 1) := by decide +kernel
theorem dSp_act_169 : decode cSp_act 169 = .ok (.iload 6, 2) := by decide +kernel
theorem dSp_act_171 : decode cSp_act 171 = .ok (.invokevirtual 78, 3) := by decide +kernel
theorem dSp_act_174 : decode cSp_act 174 = .ok (.ireturn, 1) := by decide +kernel
theorem dSp_act_175 : decode cSp_act 175 = .ok (.lload_n 3, 1) := by decide +kernel
theorem dSp_act_176 : decode cSp_act 176 = .ok (.lconst 1, 1) := by decide +kernel
theorem dSp_act_177 : decode cSp_act 177 = .ok (.lcmp, 1) := by decide +kernel
theorem dSp_act_178 : decode cSp_act 178 = .ok (.ifCond .lt 25, 3) := by decide +kernel
theorem dSp_act_181 : decode cSp_act 181 = .ok (.lload_n 3, 1) := by decide +kernel
theorem dSp_act_182 : decode cSp_act 182 = .ok (.ldc2_w 81, 3) := by decide +kernel
theorem dSp_act_185 : decode cSp_act 185 = .ok (.lcmp, 1) := by decide +kernel
theorem dSp_act_186 : decode cSp_act 186 = .ok (.ifCond .gt 17, 3) := by decide +kernel
theorem dSp_act_189 : decode cSp_act 189 = .ok (.aload_n 0, 1) := by decide +kernel
theorem dSp_act_190 : decode cSp_act 190 = .ok (.iload 6, 2) := by decide +kernel
theorem dSp_act_192 : decode cSp_act 192 = .ok (.iconst 1, 1) := by decide +kernel
theorem dSp_act_193 : decode cSp_act 193 = .ok (.isub, 1) := by decide +kernel
theorem dSp_act_194 : decode cSp_act 194 = .ok (.lload_n 3, 1) := by decide +kernel
theorem dSp_act_195 : decode cSp_act 195 = .ok (.l2i, 1) := by decide +kernel
theorem dSp_act_196 : decode cSp_act 196 = .ok (.iadd, 1) := by decide +kernel
theorem dSp_act_197 : decode cSp_act 197 = .ok (.invokevirtual 78, 3) := by decide +kernel
theorem dSp_act_200 : decode cSp_act 200 = .ok (.goto 4, 3) := by decide +kernel
theorem dSp_act_203 : decode cSp_act 203 = .ok (.iconst 0, 1) := by decide +kernel
theorem dSp_act_204 : decode cSp_act 204 = .ok (.ireturn, 1) := by decide +kernel
theorem dSp_act_205 : decode cSp_act 205 = .ok (.aload_n 0, 1) := by decide +kernel
theorem dSp_act_206 : decode cSp_act 206 = .ok (.iload 6, 2) := by decide +kernel
theorem dSp_act_208 : decode cSp_act 208 = .ok (.ifCond .ne 7, 3) := by decide +kernel
theorem dSp_act_211 : decode cSp_act 211 = .ok (.iload_n 2, 1) := by decide +kernel
theorem dSp_act_212 : decode cSp_act 212 = .ok (.goto 11, 3) := by decide +kernel
theorem dSp_act_215 : decode cSp_act 215 = .ok (.aload_n 0, 1) := by decide +kernel
theorem dSp_act_216 : decode cSp_act 216 = .ok (.getfield 15, 3) := by decide +kernel
theorem dSp_act_219 : decode cSp_act 219 = .ok (.iload_n 2, 1) := by decide +kernel
theorem dSp_act_220 : decode cSp_act 220 = .ok (.invokevirtual 83, 3) := by decide +kernel
theorem dSp_act_223 : decode cSp_act 223 = .ok (.invokevirtual 88, 3) := by decide +kernel
theorem dSp_act_226 : decode cSp_act 226 = .ok (.ireturn, 1) := by decide +kernel
theorem dSp_act_227 : decode cSp_act 227 = .ok (.iconst (-1), 1) := by decide +kernel
theorem dSp_act_228 : decode cSp_act 228 = .ok (.ireturn, 1) := by decide +kernel
theorem dSp_act_229 : decode cSp_act 229 = .ok (.aload_n 0, 1) := by decide +kernel
theorem dSp_act_230 : decode cSp_act 230 = .ok (.getfield 27, 3) := by decide +kernel
theorem dSp_act_233 : decode cSp_act 233 = .ok (.lload_n 3, 1) := by decide +kernel
theorem dSp_act_234 : decode cSp_act 234 = .ok (.invokevirtual 91, 3) := by decide +kernel
theorem dSp_act_237 : decode cSp_act 237 = .ok (.bipush (-3), 2) := by decide +kernel
theorem dSp_act_239 : decode cSp_act 239 = .ok (.ireturn, 1) := by decide +kernel
theorem dSp_act_240 : decode cSp_act 240 = .ok (.aload_n 0, 1) := by decide +kernel
theorem dSp_act_241 : decode cSp_act 241 = .ok (.aload_n 0, 1) := by decide +kernel
theorem dSp_act_242 : decode cSp_act 242 = .ok (.iload_n 1, 1) := by decide +kernel
theorem dSp_act_243 : decode cSp_act 243 = .ok (.invokevirtual 95, 3) := by decide +kernel
theorem dSp_act_246 : decode cSp_act 246 = .ok (.iload 6, 2) := by decide +kernel
theorem dSp_act_248 : decode cSp_act 248 = .ok (.iload 7, 2) := by decide +kernel
theorem dSp_act_250 : decode cSp_act 250 = .ok (.invokevirtual 98, 3) := by decide +kernel
theorem dSp_act_253 : decode cSp_act 253 = .ok (.ireturn, 1) := by decide +kernel
theorem dSp_act_254 : decode cSp_act 254 = .ok (.iconst 0, 1) := by decide +kernel
theorem dSp_act_255 : decode cSp_act 255 = .ok (.ireturn, 1) := by decide +kernel
abbrev cSp_goTo : ByteArray := prog_9_method_4_code
def ySp_goTo : MethodName := ⟨RSp, "goTo", "(I)I"⟩
def wsSp_goTo : List Cond := .code ySp_goTo cSp_goTo 2 (some .int) :: TB
theorem dSp_goTo_0 : decode cSp_goTo 0 = .ok (.aload_n 0, 1) := by decide +kernel
theorem dSp_goTo_1 : decode cSp_goTo 1 = .ok (.getfield 15, 3) := by decide +kernel
theorem dSp_goTo_4 : decode cSp_goTo 4 = .ok (.iload_n 1, 1) := by decide +kernel
theorem dSp_goTo_5 : decode cSp_goTo 5 = .ok (.invokevirtual 102, 3) := by decide +kernel
theorem dSp_goTo_8 : decode cSp_goTo 8 = .ok (.ifCond .eq 13, 3) := by decide +kernel
theorem dSp_goTo_11 : decode cSp_goTo 11 = .ok (.aload_n 0, 1) := by decide +kernel
theorem dSp_goTo_12 : decode cSp_goTo 12 = .ok (.iload_n 1, 1) := by decide +kernel
theorem dSp_goTo_13 : decode cSp_goTo 13 = .ok (.iconst 1, 1) := by decide +kernel
theorem dSp_goTo_14 : decode cSp_goTo 14 = .ok (.isub, 1) := by decide +kernel
theorem dSp_goTo_15 : decode cSp_goTo 15 = .ok (.invokevirtual 88, 3) := by decide +kernel
theorem dSp_goTo_18 : decode cSp_goTo 18 = .ok (.goto 4, 3) := by decide +kernel
theorem dSp_goTo_21 : decode cSp_goTo 21 = .ok (.iconst 0, 1) := by decide +kernel
theorem dSp_goTo_22 : decode cSp_goTo 22 = .ok (.ireturn, 1) := by decide +kernel
abbrev cSp_leaveBehind : ByteArray := prog_9_method_5_code
def ySp_leaveBehind : MethodName := ⟨RSp, "leaveBehind", "(I)I"⟩
def wsSp_leaveBehind : List Cond := .code ySp_leaveBehind cSp_leaveBehind 2 (some .int) :: TB
theorem dSp_leaveBehind_0 : decode cSp_leaveBehind 0 = .ok (.aload_n 0, 1) := by decide +kernel
theorem dSp_leaveBehind_1 : decode cSp_leaveBehind 1 = .ok (.iload_n 1, 1) := by decide +kernel
theorem dSp_leaveBehind_2 : decode cSp_leaveBehind 2 = .ok (.iconst 1, 1) := by decide +kernel
theorem dSp_leaveBehind_3 : decode cSp_leaveBehind 3 = .ok (.iadd, 1) := by decide +kernel
theorem dSp_leaveBehind_4 : decode cSp_leaveBehind 4 = .ok (.putfield 105, 3) := by decide +kernel
theorem dSp_leaveBehind_7 : decode cSp_leaveBehind 7 = .ok (.bipush (-2), 2) := by decide +kernel
theorem dSp_leaveBehind_9 : decode cSp_leaveBehind 9 = .ok (.ireturn, 1) := by decide +kernel
abbrev cSp_takeAnswer : ByteArray := prog_9_method_6_code
def ySp_takeAnswer : MethodName := ⟨RSp, "takeAnswer", "(I)I"⟩
def wsSp_takeAnswer : List Cond := .code ySp_takeAnswer cSp_takeAnswer 3 (some .int) :: TB
theorem dSp_takeAnswer_0 : decode cSp_takeAnswer 0 = .ok (.aload_n 0, 1) := by decide +kernel
theorem dSp_takeAnswer_1 : decode cSp_takeAnswer 1 = .ok (.getfield 23, 3) := by decide +kernel
theorem dSp_takeAnswer_4 : decode cSp_takeAnswer 4 = .ok (.iload_n 1, 1) := by decide +kernel
theorem dSp_takeAnswer_5 : decode cSp_takeAnswer 5 = .ok (.invokevirtual 109, 3) := by decide +kernel
theorem dSp_takeAnswer_8 : decode cSp_takeAnswer 8 = .ok (.istore_n 2, 1) := by decide +kernel
theorem dSp_takeAnswer_9 : decode cSp_takeAnswer 9 = .ok (.aload_n 0, 1) := by decide +kernel
theorem dSp_takeAnswer_10 : decode cSp_takeAnswer 10 = .ok (.getfield 19, 3) := by decide +kernel
theorem dSp_takeAnswer_13 : decode cSp_takeAnswer 13 = .ok (.iload_n 1, 1) := by decide +kernel
theorem dSp_takeAnswer_14 : decode cSp_takeAnswer 14 = .ok (.iload_n 2, 1) := by decide +kernel
theorem dSp_takeAnswer_15 : decode cSp_takeAnswer 15 = .ok (.invokevirtual 112, 3) := by decide +kernel
theorem dSp_takeAnswer_18 : decode cSp_takeAnswer 18 = .ok (.ifCond .gt 5, 3) := by decide +kernel
theorem dSp_takeAnswer_21 : decode cSp_takeAnswer 21 = .ok (.iconst 0, 1) := by decide +kernel
theorem dSp_takeAnswer_22 : decode cSp_takeAnswer 22 = .ok (.ireturn, 1) := by decide +kernel
theorem dSp_takeAnswer_23 : decode cSp_takeAnswer 23 = .ok (.aload_n 0, 1) := by decide +kernel
theorem dSp_takeAnswer_24 : decode cSp_takeAnswer 24 = .ok (.getfield 23, 3) := by decide +kernel
theorem dSp_takeAnswer_27 : decode cSp_takeAnswer 27 = .ok (.iload_n 1, 1) := by decide +kernel
theorem dSp_takeAnswer_28 : decode cSp_takeAnswer 28 = .ok (.invokevirtual 118, 3) := by decide +kernel
theorem dSp_takeAnswer_31 : decode cSp_takeAnswer 31 = .ok (.aload_n 0, 1) := by decide +kernel
theorem dSp_takeAnswer_32 : decode cSp_takeAnswer 32 = .ok (.getfield 19, 3) := by decide +kernel
theorem dSp_takeAnswer_35 : decode cSp_takeAnswer 35 = .ok (.iload_n 1, 1) := by decide +kernel
theorem dSp_takeAnswer_36 : decode cSp_takeAnswer 36 = .ok (.iload_n 2, 1) := by decide +kernel
theorem dSp_takeAnswer_37 : decode cSp_takeAnswer 37 = .ok (.invokevirtual 121, 3) := by decide +kernel
theorem dSp_takeAnswer_40 : decode cSp_takeAnswer 40 = .ok (.ireturn, 1) := by decide +kernel
abbrev cSp_byAnswer : ByteArray := prog_9_method_7_code
def ySp_byAnswer : MethodName := ⟨RSp, "byAnswer", "(III)I"⟩
def wsSp_byAnswer : List Cond := .code ySp_byAnswer cSp_byAnswer 4 (some .int) :: TB
theorem dSp_byAnswer_0 : decode cSp_byAnswer 0 = .ok (.iload_n 1, 1) := by decide +kernel
theorem dSp_byAnswer_1 : decode cSp_byAnswer 1 = .ok (.ifCond .ne 5, 3) := by decide +kernel
theorem dSp_byAnswer_4 : decode cSp_byAnswer 4 = .ok (.iload_n 3, 1) := by decide +kernel
theorem dSp_byAnswer_5 : decode cSp_byAnswer 5 = .ok (.ireturn, 1) := by decide +kernel
theorem dSp_byAnswer_6 : decode cSp_byAnswer 6 = .ok (.iload_n 2, 1) := by decide +kernel
theorem dSp_byAnswer_7 : decode cSp_byAnswer 7 = .ok (.ifCond .eq 5, 3) := by decide +kernel
theorem dSp_byAnswer_10 : decode cSp_byAnswer 10 = .ok (.iload_n 2, 1) := by decide +kernel
theorem dSp_byAnswer_11 : decode cSp_byAnswer 11 = .ok (.ireturn, 1) := by decide +kernel
theorem dSp_byAnswer_12 : decode cSp_byAnswer 12 = .ok (.iload_n 1, 1) := by decide +kernel
theorem dSp_byAnswer_13 : decode cSp_byAnswer 13 = .ok (.iconst 5, 1) := by decide +kernel
theorem dSp_byAnswer_14 : decode cSp_byAnswer 14 = .ok (.if_icmp .ge 5, 3) := by decide +kernel
theorem dSp_byAnswer_17 : decode cSp_byAnswer 17 = .ok (.iconst 0, 1) := by decide +kernel
theorem dSp_byAnswer_18 : decode cSp_byAnswer 18 = .ok (.ireturn, 1) := by decide +kernel
theorem dSp_byAnswer_19 : decode cSp_byAnswer 19 = .ok (.aload_n 0, 1) := by decide +kernel
theorem dSp_byAnswer_20 : decode cSp_byAnswer 20 = .ok (.getfield 27, 3) := by decide +kernel
theorem dSp_byAnswer_23 : decode cSp_byAnswer 23 = .ok (.bipush 10, 2) := by decide +kernel
theorem dSp_byAnswer_25 : decode cSp_byAnswer 25 = .ok (.iload_n 1, 1) := by decide +kernel
theorem dSp_byAnswer_26 : decode cSp_byAnswer 26 = .ok (.iadd, 1) := by decide +kernel
theorem dSp_byAnswer_27 : decode cSp_byAnswer 27 = .ok (.invokevirtual 61, 3) := by decide +kernel
theorem dSp_byAnswer_30 : decode cSp_byAnswer 30 = .ok (.bipush (-3), 2) := by decide +kernel
theorem dSp_byAnswer_32 : decode cSp_byAnswer 32 = .ok (.ireturn, 1) := by decide +kernel
abbrev cSp_firstFitting : ByteArray := prog_9_method_8_code
def ySp_firstFitting : MethodName := ⟨RSp, "firstFitting", "(IJ)I"⟩
def wsSp_firstFitting : List Cond := .code ySp_firstFitting cSp_firstFitting 7 (some .int) :: TB
theorem dSp_firstFitting_0 : decode cSp_firstFitting 0 = .ok (.iload_n 1, 1) := by decide +kernel
theorem dSp_firstFitting_1 : decode cSp_firstFitting 1 = .ok (.istore 4, 2) := by decide +kernel
theorem dSp_firstFitting_3 : decode cSp_firstFitting 3 = .ok (.iconst 0, 1) := by decide +kernel
theorem dSp_firstFitting_4 : decode cSp_firstFitting 4 = .ok (.istore 5, 2) := by decide +kernel
theorem dSp_firstFitting_6 : decode cSp_firstFitting 6 = .ok (.iload 5, 2) := by decide +kernel
theorem dSp_firstFitting_8 : decode cSp_firstFitting 8 = .ok (.sipush 200, 3) := by decide +kernel
theorem dSp_firstFitting_11 : decode cSp_firstFitting 11 = .ok (.if_icmp .ge 63, 3) := by decide +kernel
theorem dSp_firstFitting_14 : decode cSp_firstFitting 14 = .ok (.iload 4, 2) := by decide +kernel
theorem dSp_firstFitting_16 : decode cSp_firstFitting 16 = .ok (.ifCond .eq 58, 3) := by decide +kernel
theorem dSp_firstFitting_19 : decode cSp_firstFitting 19 = .ok (.aload_n 0, 1) := by decide +kernel
theorem dSp_firstFitting_20 : decode cSp_firstFitting 20 = .ok (.getfield 9, 3) := by decide +kernel
theorem dSp_firstFitting_23 : decode cSp_firstFitting 23 = .ok (.iload 4, 2) := by decide +kernel
theorem dSp_firstFitting_25 : decode cSp_firstFitting 25 = .ok (.invokevirtual 69, 3) := by decide +kernel
theorem dSp_firstFitting_28 : decode cSp_firstFitting 28 = .ok (.istore 6, 2) := by decide +kernel
theorem dSp_firstFitting_30 : decode cSp_firstFitting 30 = .ok (.aload_n 0, 1) := by decide +kernel
theorem dSp_firstFitting_31 : decode cSp_firstFitting 31 = .ok (.aload_n 0, 1) := by decide +kernel
theorem dSp_firstFitting_32 : decode cSp_firstFitting 32 = .ok (.getfield 9, 3) := by decide +kernel
theorem dSp_firstFitting_35 : decode cSp_firstFitting 35 = .ok (.iload 6, 2) := by decide +kernel
theorem dSp_firstFitting_37 : decode cSp_firstFitting 37 = .ok (.invokevirtual 69, 3) := by decide +kernel
theorem dSp_firstFitting_40 : decode cSp_firstFitting 40 = .ok (.lload_n 2, 1) := by decide +kernel
theorem dSp_firstFitting_41 : decode cSp_firstFitting 41 = .ok (.invokevirtual 124, 3) := by decide +kernel
theorem dSp_firstFitting_44 : decode cSp_firstFitting 44 = .ok (.ifCond .eq 13, 3) := by decide +kernel
theorem dSp_firstFitting_47 : decode cSp_firstFitting 47 = .ok (.aload_n 0, 1) := by decide +kernel
theorem dSp_firstFitting_48 : decode cSp_firstFitting 48 = .ok (.getfield 9, 3) := by decide +kernel
theorem dSp_firstFitting_51 : decode cSp_firstFitting 51 = .ok (.iload 6, 2) := by decide +kernel
theorem dSp_firstFitting_53 : decode cSp_firstFitting 53 = .ok (.invokevirtual 54, 3) := by decide +kernel
theorem dSp_firstFitting_56 : decode cSp_firstFitting 56 = .ok (.ireturn, 1) := by decide +kernel
theorem dSp_firstFitting_57 : decode cSp_firstFitting 57 = .ok (.aload_n 0, 1) := by decide +kernel
theorem dSp_firstFitting_58 : decode cSp_firstFitting 58 = .ok (.getfield 9, 3) := by decide +kernel
theorem dSp_firstFitting_61 : decode cSp_firstFitting 61 = .ok (.iload 4, 2) := by decide +kernel
theorem dSp_firstFitting_63 : decode cSp_firstFitting 63 = .ok (.invokevirtual 54, 3) := by decide +kernel
theorem dSp_firstFitting_66 : decode cSp_firstFitting 66 = .ok (.istore 4, 2) := by decide +kernel
theorem dSp_firstFitting_68 : decode cSp_firstFitting 68 = .ok (.iinc 5 1, 3) := by decide +kernel
theorem dSp_firstFitting_71 : decode cSp_firstFitting 71 = .ok (.goto (-65), 3) := by decide +kernel
theorem dSp_firstFitting_74 : decode cSp_firstFitting 74 = .ok (.iconst 0, 1) := by decide +kernel
theorem dSp_firstFitting_75 : decode cSp_firstFitting 75 = .ok (.ireturn, 1) := by decide +kernel
abbrev cSp_fits : ByteArray := prog_9_method_9_code
def ySp_fits : MethodName := ⟨RSp, "fits", "(IJ)Z"⟩
def wsSp_fits : List Cond := .code ySp_fits cSp_fits 8 (some .boolean) :: TB
theorem dSp_fits_0 : decode cSp_fits 0 = .ok (.iload_n 1, 1) := by decide +kernel
theorem dSp_fits_1 : decode cSp_fits 1 = .ok (.ifCond .ne 5, 3) := by decide +kernel
theorem dSp_fits_4 : decode cSp_fits 4 = .ok (.iconst 1, 1) := by decide +kernel
theorem dSp_fits_5 : decode cSp_fits 5 = .ok (.ireturn, 1) := by decide +kernel
theorem dSp_fits_6 : decode cSp_fits 6 = .ok (.aload_n 0, 1) := by decide +kernel
theorem dSp_fits_7 : decode cSp_fits 7 = .ok (.getfield 9, 3) := by decide +kernel
theorem dSp_fits_10 : decode cSp_fits 10 = .ok (.iload_n 1, 1) := by decide +kernel
theorem dSp_fits_11 : decode cSp_fits 11 = .ok (.invokevirtual 51, 3) := by decide +kernel
theorem dSp_fits_14 : decode cSp_fits 14 = .ok (.bipush 8, 2) := by decide +kernel
theorem dSp_fits_16 : decode cSp_fits 16 = .ok (.if_icmp .eq 20, 3) := by decide +kernel
theorem dSp_fits_19 : decode cSp_fits 19 = .ok (.aload_n 0, 1) := by decide +kernel
theorem dSp_fits_20 : decode cSp_fits 20 = .ok (.iload_n 1, 1) := by decide +kernel
theorem dSp_fits_21 : decode cSp_fits 21 = .ok (.iconst 0, 1) := by decide +kernel
theorem dSp_fits_22 : decode cSp_fits 22 = .ok (.invokevirtual 47, 3) := by decide +kernel
theorem dSp_fits_25 : decode cSp_fits 25 = .ok (.lload_n 2, 1) := by decide +kernel
theorem dSp_fits_26 : decode cSp_fits 26 = .ok (.lcmp, 1) := by decide +kernel
theorem dSp_fits_27 : decode cSp_fits 27 = .ok (.ifCond .ne 7, 3) := by decide +kernel
theorem dSp_fits_30 : decode cSp_fits 30 = .ok (.iconst 1, 1) := by decide +kernel
theorem dSp_fits_31 : decode cSp_fits 31 = .ok (.goto 4, 3) := by decide +kernel
theorem dSp_fits_34 : decode cSp_fits 34 = .ok (.iconst 0, 1) := by decide +kernel
theorem dSp_fits_35 : decode cSp_fits 35 = .ok (.ireturn, 1) := by decide +kernel
theorem dSp_fits_36 : decode cSp_fits 36 = .ok (.aload_n 0, 1) := by decide +kernel
theorem dSp_fits_37 : decode cSp_fits 37 = .ok (.aload_n 0, 1) := by decide +kernel
theorem dSp_fits_38 : decode cSp_fits 38 = .ok (.getfield 9, 3) := by decide +kernel
theorem dSp_fits_41 : decode cSp_fits 41 = .ok (.iload_n 1, 1) := by decide +kernel
theorem dSp_fits_42 : decode cSp_fits 42 = .ok (.invokevirtual 69, 3) := by decide +kernel
theorem dSp_fits_45 : decode cSp_fits 45 = .ok (.iconst 0, 1) := by decide +kernel
theorem dSp_fits_46 : decode cSp_fits 46 = .ok (.invokevirtual 47, 3) := by decide +kernel
theorem dSp_fits_49 : decode cSp_fits 49 = .ok (.lstore 4, 2) := by decide +kernel
theorem dSp_fits_51 : decode cSp_fits 51 = .ok (.aload_n 0, 1) := by decide +kernel
theorem dSp_fits_52 : decode cSp_fits 52 = .ok (.aload_n 0, 1) := by decide +kernel
theorem dSp_fits_53 : decode cSp_fits 53 = .ok (.getfield 9, 3) := by decide +kernel
theorem dSp_fits_56 : decode cSp_fits 56 = .ok (.iload_n 1, 1) := by decide +kernel
theorem dSp_fits_57 : decode cSp_fits 57 = .ok (.invokevirtual 54, 3) := by decide +kernel
theorem dSp_fits_60 : decode cSp_fits 60 = .ok (.iconst 0, 1) := by decide +kernel
theorem dSp_fits_61 : decode cSp_fits 61 = .ok (.invokevirtual 47, 3) := by decide +kernel
theorem dSp_fits_64 : decode cSp_fits 64 = .ok (.lstore 6, 2) := by decide +kernel
theorem dSp_fits_66 : decode cSp_fits 66 = .ok (.lload 4, 2) := by decide +kernel
theorem dSp_fits_68 : decode cSp_fits 68 = .ok (.lload_n 2, 1) := by decide +kernel
theorem dSp_fits_69 : decode cSp_fits 69 = .ok (.lcmp, 1) := by decide +kernel
theorem dSp_fits_70 : decode cSp_fits 70 = .ok (.ifCond .gt 14, 3) := by decide +kernel
theorem dSp_fits_73 : decode cSp_fits 73 = .ok (.lload_n 2, 1) := by decide +kernel
theorem dSp_fits_74 : decode cSp_fits 74 = .ok (.lload 6, 2) := by decide +kernel
theorem dSp_fits_76 : decode cSp_fits 76 = .ok (.lcmp, 1) := by decide +kernel
theorem dSp_fits_77 : decode cSp_fits 77 = .ok (.ifCond .gt 7, 3) := by decide +kernel
theorem dSp_fits_80 : decode cSp_fits 80 = .ok (.iconst 1, 1) := by decide +kernel
theorem dSp_fits_81 : decode cSp_fits 81 = .ok (.goto 4, 3) := by decide +kernel
theorem dSp_fits_84 : decode cSp_fits 84 = .ok (.iconst 0, 1) := by decide +kernel
theorem dSp_fits_85 : decode cSp_fits 85 = .ok (.ireturn, 1) := by decide +kernel
abbrev cSp_reckon : ByteArray := prog_9_method_10_code
def ySp_reckon : MethodName := ⟨RSp, "reckon", "(II)J"⟩
def wsSp_reckon : List Cond := .code ySp_reckon cSp_reckon 8 (some .long) :: TB
theorem dSp_reckon_0 : decode cSp_reckon 0 = .ok (.aload_n 0, 1) := by decide +kernel
theorem dSp_reckon_1 : decode cSp_reckon 1 = .ok (.getfield 9, 3) := by decide +kernel
theorem dSp_reckon_4 : decode cSp_reckon 4 = .ok (.iload_n 1, 1) := by decide +kernel
theorem dSp_reckon_5 : decode cSp_reckon 5 = .ok (.invokevirtual 51, 3) := by decide +kernel
theorem dSp_reckon_8 : decode cSp_reckon 8 = .ok (.istore_n 3, 1) := by decide +kernel
theorem dSp_reckon_9 : decode cSp_reckon 9 = .ok (.iload_n 3, 1) := by decide +kernel
theorem dSp_reckon_10 : decode cSp_reckon 10 = .ok (.ifCond .ne 13, 3) := by decide +kernel
theorem dSp_reckon_13 : decode cSp_reckon 13 = .ok (.aload_n 0, 1) := by decide +kernel
theorem dSp_reckon_14 : decode cSp_reckon 14 = .ok (.getfield 9, 3) := by decide +kernel
theorem dSp_reckon_17 : decode cSp_reckon 17 = .ok (.iload_n 1, 1) := by decide +kernel
theorem dSp_reckon_18 : decode cSp_reckon 18 = .ok (.invokevirtual 69, 3) := by decide +kernel
theorem dSp_reckon_21 : decode cSp_reckon 21 = .ok (.i2l, 1) := by decide +kernel
theorem dSp_reckon_22 : decode cSp_reckon 22 = .ok (.lreturn, 1) := by decide +kernel
theorem dSp_reckon_23 : decode cSp_reckon 23 = .ok (.iload_n 3, 1) := by decide +kernel
theorem dSp_reckon_24 : decode cSp_reckon 24 = .ok (.iconst 1, 1) := by decide +kernel
theorem dSp_reckon_25 : decode cSp_reckon 25 = .ok (.if_icmp .ne 19, 3) := by decide +kernel
theorem dSp_reckon_28 : decode cSp_reckon 28 = .ok (.aload_n 0, 1) := by decide +kernel
theorem dSp_reckon_29 : decode cSp_reckon 29 = .ok (.getfield 23, 3) := by decide +kernel
theorem dSp_reckon_32 : decode cSp_reckon 32 = .ok (.aload_n 0, 1) := by decide +kernel
theorem dSp_reckon_33 : decode cSp_reckon 33 = .ok (.getfield 9, 3) := by decide +kernel
theorem dSp_reckon_36 : decode cSp_reckon 36 = .ok (.iload_n 1, 1) := by decide +kernel
theorem dSp_reckon_37 : decode cSp_reckon 37 = .ok (.invokevirtual 69, 3) := by decide +kernel
theorem dSp_reckon_40 : decode cSp_reckon 40 = .ok (.invokevirtual 128, 3) := by decide +kernel
theorem dSp_reckon_43 : decode cSp_reckon 43 = .ok (.lreturn, 1) := by decide +kernel
theorem dSp_reckon_44 : decode cSp_reckon 44 = .ok (.iload_n 3, 1) := by decide +kernel
theorem dSp_reckon_45 : decode cSp_reckon 45 = .ok (.iconst 2, 1) := by decide +kernel
theorem dSp_reckon_46 : decode cSp_reckon 46 = .ok (.if_icmp .lt 15, 3) := by decide +kernel
theorem dSp_reckon_49 : decode cSp_reckon 49 = .ok (.iload_n 3, 1) := by decide +kernel
theorem dSp_reckon_50 : decode cSp_reckon 50 = .ok (.bipush 7, 2) := by decide +kernel
theorem dSp_reckon_52 : decode cSp_reckon 52 = .ok (.if_icmp .gt 9, 3) := by decide +kernel
theorem dSp_reckon_55 : decode cSp_reckon 55 = .ok (.iload_n 2, 1) := by decide +kernel
theorem dSp_reckon_56 : decode cSp_reckon 56 = .ok (.bipush 50, 2) := by decide +kernel
theorem dSp_reckon_58 : decode cSp_reckon 58 = .ok (.if_icmp .lt 5, 3) := by decide +kernel
theorem dSp_reckon_61 : decode cSp_reckon 61 = .ok (.lconst 0, 1) := by decide +kernel
theorem dSp_reckon_62 : decode cSp_reckon 62 = .ok (.lreturn, 1) := by decide +kernel
theorem dSp_reckon_63 : decode cSp_reckon 63 = .ok (.aload_n 0, 1) := by decide +kernel
theorem dSp_reckon_64 : decode cSp_reckon 64 = .ok (.aload_n 0, 1) := by decide +kernel
theorem dSp_reckon_65 : decode cSp_reckon 65 = .ok (.getfield 9, 3) := by decide +kernel
theorem dSp_reckon_68 : decode cSp_reckon 68 = .ok (.iload_n 1, 1) := by decide +kernel
theorem dSp_reckon_69 : decode cSp_reckon 69 = .ok (.invokevirtual 69, 3) := by decide +kernel
theorem dSp_reckon_72 : decode cSp_reckon 72 = .ok (.iload_n 2, 1) := by decide +kernel
theorem dSp_reckon_73 : decode cSp_reckon 73 = .ok (.iconst 1, 1) := by decide +kernel
theorem dSp_reckon_74 : decode cSp_reckon 74 = .ok (.iadd, 1) := by decide +kernel
theorem dSp_reckon_75 : decode cSp_reckon 75 = .ok (.invokevirtual 47, 3) := by decide +kernel
theorem dSp_reckon_78 : decode cSp_reckon 78 = .ok (.lstore 4, 2) := by decide +kernel
theorem dSp_reckon_80 : decode cSp_reckon 80 = .ok (.aload_n 0, 1) := by decide +kernel
theorem dSp_reckon_81 : decode cSp_reckon 81 = .ok (.aload_n 0, 1) := by decide +kernel
theorem dSp_reckon_82 : decode cSp_reckon 82 = .ok (.getfield 9, 3) := by decide +kernel
theorem dSp_reckon_85 : decode cSp_reckon 85 = .ok (.iload_n 1, 1) := by decide +kernel
theorem dSp_reckon_86 : decode cSp_reckon 86 = .ok (.invokevirtual 54, 3) := by decide +kernel
theorem dSp_reckon_89 : decode cSp_reckon 89 = .ok (.iload_n 2, 1) := by decide +kernel
theorem dSp_reckon_90 : decode cSp_reckon 90 = .ok (.iconst 1, 1) := by decide +kernel
theorem dSp_reckon_91 : decode cSp_reckon 91 = .ok (.iadd, 1) := by decide +kernel
theorem dSp_reckon_92 : decode cSp_reckon 92 = .ok (.invokevirtual 47, 3) := by decide +kernel
theorem dSp_reckon_95 : decode cSp_reckon 95 = .ok (.lstore 6, 2) := by decide +kernel
theorem dSp_reckon_97 : decode cSp_reckon 97 = .ok (.aload_n 0, 1) := by decide +kernel
theorem dSp_reckon_98 : decode cSp_reckon 98 = .ok (.iload_n 3, 1) := by decide +kernel
theorem dSp_reckon_99 : decode cSp_reckon 99 = .ok (.lload 4, 2) := by decide +kernel
theorem dSp_reckon_101 : decode cSp_reckon 101 = .ok (.lload 6, 2) := by decide +kernel
theorem dSp_reckon_103 : decode cSp_reckon 103 = .ok (.invokevirtual 132, 3) := by decide +kernel
theorem dSp_reckon_106 : decode cSp_reckon 106 = .ok (.lreturn, 1) := by decide +kernel
abbrev cSp_join : ByteArray := prog_9_method_11_code
def ySp_join : MethodName := ⟨RSp, "join", "(IJJ)J"⟩
def wsSp_join : List Cond := .code ySp_join cSp_join 6 (some .long) :: TB
theorem dSp_join_0 : decode cSp_join 0 = .ok (.iload_n 1, 1) := by decide +kernel
theorem dSp_join_1 : decode cSp_join 1 = .ok (.tableswitch 99 2 7 #[39, 44, 49, 54, 73, 86], 39) := by decide +kernel
theorem dSp_join_40 : decode cSp_join 40 = .ok (.lload_n 2, 1) := by decide +kernel
theorem dSp_join_41 : decode cSp_join 41 = .ok (.lload 4, 2) := by decide +kernel
theorem dSp_join_43 : decode cSp_join 43 = .ok (.ladd, 1) := by decide +kernel
theorem dSp_join_44 : decode cSp_join 44 = .ok (.lreturn, 1) := by decide +kernel
theorem dSp_join_45 : decode cSp_join 45 = .ok (.lload_n 2, 1) := by decide +kernel
theorem dSp_join_46 : decode cSp_join 46 = .ok (.lload 4, 2) := by decide +kernel
theorem dSp_join_48 : decode cSp_join 48 = .ok (.lsub, 1) := by decide +kernel
theorem dSp_join_49 : decode cSp_join 49 = .ok (.lreturn, 1) := by decide +kernel
theorem dSp_join_50 : decode cSp_join 50 = .ok (.lload_n 2, 1) := by decide +kernel
theorem dSp_join_51 : decode cSp_join 51 = .ok (.lload 4, 2) := by decide +kernel
theorem dSp_join_53 : decode cSp_join 53 = .ok (.lmul, 1) := by decide +kernel
theorem dSp_join_54 : decode cSp_join 54 = .ok (.lreturn, 1) := by decide +kernel
theorem dSp_join_55 : decode cSp_join 55 = .ok (.lload 4, 2) := by decide +kernel
theorem dSp_join_57 : decode cSp_join 57 = .ok (.lconst 0, 1) := by decide +kernel
theorem dSp_join_58 : decode cSp_join 58 = .ok (.lcmp, 1) := by decide +kernel
theorem dSp_join_59 : decode cSp_join 59 = .ok (.ifCond .ne 10, 3) := by decide +kernel
theorem dSp_join_62 : decode cSp_join 62 = .ok (.aload_n 0, 1) := by decide +kernel
theorem dSp_join_63 : decode cSp_join 63 = .ok (.iconst 1, 1) := by decide +kernel
theorem dSp_join_64 : decode cSp_join 64 = .ok (.putfield 37, 3) := by decide +kernel
theorem dSp_join_67 : decode cSp_join 67 = .ok (.lconst 0, 1) := by decide +kernel
theorem dSp_join_68 : decode cSp_join 68 = .ok (.lreturn, 1) := by decide +kernel
theorem dSp_join_69 : decode cSp_join 69 = .ok (.lload_n 2, 1) := by decide +kernel
theorem dSp_join_70 : decode cSp_join 70 = .ok (.lload 4, 2) := by decide +kernel
theorem dSp_join_72 : decode cSp_join 72 = .ok (.ldiv, 1) := by decide +kernel
theorem dSp_join_73 : decode cSp_join 73 = .ok (.lreturn, 1) := by decide +kernel
theorem dSp_join_74 : decode cSp_join 74 = .ok (.lload_n 2, 1) := by decide +kernel
theorem dSp_join_75 : decode cSp_join 75 = .ok (.lload 4, 2) := by decide +kernel
theorem dSp_join_77 : decode cSp_join 77 = .ok (.lcmp, 1) := by decide +kernel
theorem dSp_join_78 : decode cSp_join 78 = .ok (.ifCond .ge 7, 3) := by decide +kernel
theorem dSp_join_81 : decode cSp_join 81 = .ok (.lconst 1, 1) := by decide +kernel
theorem dSp_join_82 : decode cSp_join 82 = .ok (.goto 4, 3) := by decide +kernel
theorem dSp_join_85 : decode cSp_join 85 = .ok (.lconst 0, 1) := by decide +kernel
theorem dSp_join_86 : decode cSp_join 86 = .ok (.lreturn, 1) := by decide +kernel
theorem dSp_join_87 : decode cSp_join 87 = .ok (.lload_n 2, 1) := by decide +kernel
theorem dSp_join_88 : decode cSp_join 88 = .ok (.lload 4, 2) := by decide +kernel
theorem dSp_join_90 : decode cSp_join 90 = .ok (.lcmp, 1) := by decide +kernel
theorem dSp_join_91 : decode cSp_join 91 = .ok (.ifCond .ne 7, 3) := by decide +kernel
theorem dSp_join_94 : decode cSp_join 94 = .ok (.lconst 1, 1) := by decide +kernel
theorem dSp_join_95 : decode cSp_join 95 = .ok (.goto 4, 3) := by decide +kernel
theorem dSp_join_98 : decode cSp_join 98 = .ok (.lconst 0, 1) := by decide +kernel
theorem dSp_join_99 : decode cSp_join 99 = .ok (.lreturn, 1) := by decide +kernel
theorem dSp_join_100 : decode cSp_join 100 = .ok (.lconst 0, 1) := by decide +kernel
theorem dSp_join_101 : decode cSp_join 101 = .ok (.lreturn, 1) := by decide +kernel
