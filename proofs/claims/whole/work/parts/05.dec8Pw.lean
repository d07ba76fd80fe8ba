abbrev cPw_init : ByteArray := prog_1_method_1_code
def yPw_init : MethodName := ⟨RPw, "<init>", "(J)V"⟩
def wsPw_init : List Cond := .code yPw_init cPw_init 3 none :: TB
theorem dPw_init_0 : decode cPw_init 0 = .ok (.aload_n 0, 1) := by decide +kernel
theorem dPw_init_1 : decode cPw_init 1 = .ok (.invokespecial 3, 3) := by decide +kernel
theorem dPw_init_4 : decode cPw_init 4 = .ok (.aload_n 0, 1) := by decide +kernel
theorem dPw_init_5 : decode cPw_init 5 = .ok (.lload_n 1, 1) := by decide +kernel
theorem dPw_init_6 : decode cPw_init 6 = .ok (.invokestatic 9, 3) := by decide +kernel
theorem dPw_init_9 : decode cPw_init 9 = .ok (.putfield 13, 3) := by decide +kernel
theorem dPw_init_12 : decode cPw_init 12 = .ok (.aload_n 0, 1) := by decide +kernel
theorem dPw_init_13 : decode cPw_init 13 = .ok (.new 17, 3) := by decide +kernel
theorem dPw_init_16 : decode cPw_init 16 = .ok (.dup, 1) := by decide +kernel
theorem dPw_init_17 : decode cPw_init 17 = .ok (.invokespecial 19, 3) := by decide +kernel
theorem dPw_init_20 : decode cPw_init 20 = .ok (.putfield 20, 3) := by decide +kernel
theorem dPw_init_23 : decode cPw_init 23 = .ok (.aload_n 0, 1) := by decide +kernel
theorem dPw_init_24 : decode cPw_init 24 = .ok (.new 24, 3) := by decide +kernel
theorem dPw_init_27 : decode cPw_init 27 = .ok (.dup, 1) := by decide +kernel
theorem dPw_init_28 : decode cPw_init 28 = .ok (.invokespecial 26, 3) := by decide +kernel
theorem dPw_init_31 : decode cPw_init 31 = .ok (.putfield 27, 3) := by decide +kernel
theorem dPw_init_34 : decode cPw_init 34 = .ok (.aload_n 0, 1) := by decide +kernel
theorem dPw_init_35 : decode cPw_init 35 = .ok (.new 31, 3) := by decide +kernel
theorem dPw_init_38 : decode cPw_init 38 = .ok (.dup, 1) := by decide +kernel
theorem dPw_init_39 : decode cPw_init 39 = .ok (.invokespecial 33, 3) := by decide +kernel
theorem dPw_init_42 : decode cPw_init 42 = .ok (.putfield 34, 3) := by decide +kernel
theorem dPw_init_45 : decode cPw_init 45 = .ok (.aload_n 0, 1) := by decide +kernel
theorem dPw_init_46 : decode cPw_init 46 = .ok (.new 38, 3) := by decide +kernel
theorem dPw_init_49 : decode cPw_init 49 = .ok (.dup, 1) := by decide +kernel
theorem dPw_init_50 : decode cPw_init 50 = .ok (.invokespecial 40, 3) := by decide +kernel
theorem dPw_init_53 : decode cPw_init 53 = .ok (.putfield 41, 3) := by decide +kernel
theorem dPw_init_56 : decode cPw_init 56 = .ok (.aload_n 0, 1) := by decide +kernel
theorem dPw_init_57 : decode cPw_init 57 = .ok (.new 45, 3) := by decide +kernel
theorem dPw_init_60 : decode cPw_init 60 = .ok (.dup, 1) := by decide +kernel
theorem dPw_init_61 : decode cPw_init 61 = .ok (.invokespecial 47, 3) := by decide +kernel
theorem dPw_init_64 : decode cPw_init 64 = .ok (.putfield 48, 3) := by decide +kernel
theorem dPw_init_67 : decode cPw_init 67 = .ok (.aload_n 0, 1) := by decide +kernel
theorem dPw_init_68 : decode cPw_init 68 = .ok (.new 52, 3) := by decide +kernel
theorem dPw_init_71 : decode cPw_init 71 = .ok (.dup, 1) := by decide +kernel
theorem dPw_init_72 : decode cPw_init 72 = .ok (.aload_n 0, 1) := by decide +kernel
theorem dPw_init_73 : decode cPw_init 73 = .ok (.getfield 20, 3) := by decide +kernel
theorem dPw_init_76 : decode cPw_init 76 = .ok (.aload_n 0, 1) := by decide +kernel
theorem dPw_init_77 : decode cPw_init 77 = .ok (.getfield 27, 3) := by decide +kernel
theorem dPw_init_80 : decode cPw_init 80 = .ok (.aload_n 0, 1) := by decide +kernel
theorem dPw_init_81 : decode cPw_init 81 = .ok (.getfield 48, 3) := by decide +kernel
theorem dPw_init_84 : decode cPw_init 84 = .ok (.new 54, 3) := by decide +kernel
theorem dPw_init_87 : decode cPw_init 87 = .ok (.dup, 1) := by decide +kernel
theorem dPw_init_88 : decode cPw_init 88 = .ok (.aload_n 0, 1) := by decide +kernel
theorem dPw_init_89 : decode cPw_init 89 = .ok (.getfield 20, 3) := by decide +kernel
theorem dPw_init_92 : decode cPw_init 92 = .ok (.aload_n 0, 1) := by decide +kernel
theorem dPw_init_93 : decode cPw_init 93 = .ok (.getfield 27, 3) := by decide +kernel
theorem dPw_init_96 : decode cPw_init 96 = .ok (.aload_n 0, 1) := by decide +kernel
theorem dPw_init_97 : decode cPw_init 97 = .ok (.getfield 34, 3) := by decide +kernel
theorem dPw_init_100 : decode cPw_init 100 = .ok (.aload_n 0, 1) := by decide +kernel
theorem dPw_init_101 : decode cPw_init 101 = .ok (.getfield 41, 3) := by decide +kernel
theorem dPw_init_104 : decode cPw_init 104 = .ok (.aload_n 0, 1) := by decide +kernel
theorem dPw_init_105 : decode cPw_init 105 = .ok (.getfield 48, 3) := by decide +kernel
theorem dPw_init_108 : decode cPw_init 108 = .ok (.invokespecial 56, 3) := by decide +kernel
theorem dPw_init_111 : decode cPw_init 111 = .ok (.invokespecial 59, 3) := by decide +kernel
theorem dPw_init_114 : decode cPw_init 114 = .ok (.putfield 62, 3) := by decide +kernel
theorem dPw_init_117 : decode cPw_init 117 = .ok (.aload_n 0, 1) := by decide +kernel
theorem dPw_init_118 : decode cPw_init 118 = .ok (.new 38, 3) := by decide +kernel
theorem dPw_init_121 : decode cPw_init 121 = .ok (.dup, 1) := by decide +kernel
theorem dPw_init_122 : decode cPw_init 122 = .ok (.invokespecial 40, 3) := by decide +kernel
theorem dPw_init_125 : decode cPw_init 125 = .ok (.putfield 66, 3) := by decide +kernel
theorem dPw_init_128 : decode cPw_init 128 = .ok (.aload_n 0, 1) := by decide +kernel
theorem dPw_init_129 : decode cPw_init 129 = .ok (.new 45, 3) := by decide +kernel
theorem dPw_init_132 : decode cPw_init 132 = .ok (.dup, 1) := by decide +kernel
theorem dPw_init_133 : decode cPw_init 133 = .ok (.invokespecial 47, 3) := by decide +kernel
theorem dPw_init_136 : decode cPw_init 136 = .ok (.putfield 69, 3) := by decide +kernel
theorem dPw_init_139 : decode cPw_init 139 = .ok (.aload_n 0, 1) := by decide +kernel
theorem dPw_init_140 : decode cPw_init 140 = .ok (.new 52, 3) := by decide +kernel
theorem dPw_init_143 : decode cPw_init 143 = .ok (.dup, 1) := by decide +kernel
theorem dPw_init_144 : decode cPw_init 144 = .ok (.aload_n 0, 1) := by decide +kernel
theorem dPw_init_145 : decode cPw_init 145 = .ok (.getfield 20, 3) := by decide +kernel
theorem dPw_init_148 : decode cPw_init 148 = .ok (.aload_n 0, 1) := by decide +kernel
theorem dPw_init_149 : decode cPw_init 149 = .ok (.getfield 27, 3) := by decide +kernel
theorem dPw_init_152 : decode cPw_init 152 = .ok (.aload_n 0, 1) := by decide +kernel
theorem dPw_init_153 : decode cPw_init 153 = .ok (.getfield 69, 3) := by decide +kernel
theorem dPw_init_156 : decode cPw_init 156 = .ok (.new 54, 3) := by decide +kernel
theorem dPw_init_159 : decode cPw_init 159 = .ok (.dup, 1) := by decide +kernel
theorem dPw_init_160 : decode cPw_init 160 = .ok (.aload_n 0, 1) := by decide +kernel
theorem dPw_init_161 : decode cPw_init 161 = .ok (.getfield 20, 3) := by decide +kernel
theorem dPw_init_164 : decode cPw_init 164 = .ok (.aload_n 0, 1) := by decide +kernel
theorem dPw_init_165 : decode cPw_init 165 = .ok (.getfield 27, 3) := by decide +kernel
theorem dPw_init_168 : decode cPw_init 168 = .ok (.aload_n 0, 1) := by decide +kernel
theorem dPw_init_169 : decode cPw_init 169 = .ok (.getfield 34, 3) := by decide +kernel
theorem dPw_init_172 : decode cPw_init 172 = .ok (.aload_n 0, 1) := by decide +kernel
theorem dPw_init_173 : decode cPw_init 173 = .ok (.getfield 66, 3) := by decide +kernel
theorem dPw_init_176 : decode cPw_init 176 = .ok (.aload_n 0, 1) := by decide +kernel
theorem dPw_init_177 : decode cPw_init 177 = .ok (.getfield 69, 3) := by decide +kernel
theorem dPw_init_180 : decode cPw_init 180 = .ok (.invokespecial 56, 3) := by decide +kernel
theorem dPw_init_183 : decode cPw_init 183 = .ok (.invokespecial 59, 3) := by decide +kernel
theorem dPw_init_186 : decode cPw_init 186 = .ok (.putfield 72, 3) := by decide +kernel
theorem dPw_init_189 : decode cPw_init 189 = .ok (.aload_n 0, 1) := by decide +kernel
theorem dPw_init_190 : decode cPw_init 190 = .ok (.new 38, 3) := by decide +kernel
theorem dPw_init_193 : decode cPw_init 193 = .ok (.dup, 1) := by decide +kernel
theorem dPw_init_194 : decode cPw_init 194 = .ok (.invokespecial 40, 3) := by decide +kernel
theorem dPw_init_197 : decode cPw_init 197 = .ok (.putfield 75, 3) := by decide +kernel
theorem dPw_init_200 : decode cPw_init 200 = .ok (.aload_n 0, 1) := by decide +kernel
theorem dPw_init_201 : decode cPw_init 201 = .ok (.new 45, 3) := by decide +kernel
theorem dPw_init_204 : decode cPw_init 204 = .ok (.dup, 1) := by decide +kernel
theorem dPw_init_205 : decode cPw_init 205 = .ok (.invokespecial 47, 3) := by decide +kernel
theorem dPw_init_208 : decode cPw_init 208 = .ok (.putfield 78, 3) := by decide +kernel
theorem dPw_init_211 : decode cPw_init 211 = .ok (.aload_n 0, 1) := by decide +kernel
theorem dPw_init_212 : decode cPw_init 212 = .ok (.new 81, 3) := by decide +kernel
theorem dPw_init_215 : decode cPw_init 215 = .ok (.dup, 1) := by decide +kernel
theorem dPw_init_216 : decode cPw_init 216 = .ok (.aload_n 0, 1) := by decide +kernel
theorem dPw_init_217 : decode cPw_init 217 = .ok (.getfield 20, 3) := by decide +kernel
theorem dPw_init_220 : decode cPw_init 220 = .ok (.aload_n 0, 1) := by decide +kernel
theorem dPw_init_221 : decode cPw_init 221 = .ok (.getfield 27, 3) := by decide +kernel
theorem dPw_init_224 : decode cPw_init 224 = .ok (.aload_n 0, 1) := by decide +kernel
theorem dPw_init_225 : decode cPw_init 225 = .ok (.getfield 78, 3) := by decide +kernel
theorem dPw_init_228 : decode cPw_init 228 = .ok (.new 54, 3) := by decide +kernel
theorem dPw_init_231 : decode cPw_init 231 = .ok (.dup, 1) := by decide +kernel
theorem dPw_init_232 : decode cPw_init 232 = .ok (.aload_n 0, 1) := by decide +kernel
theorem dPw_init_233 : decode cPw_init 233 = .ok (.getfield 20, 3) := by decide +kernel
theorem dPw_init_236 : decode cPw_init 236 = .ok (.aload_n 0, 1) := by decide +kernel
theorem dPw_init_237 : decode cPw_init 237 = .ok (.getfield 27, 3) := by decide +kernel
theorem dPw_init_240 : decode cPw_init 240 = .ok (.aload_n 0, 1) := by decide +kernel
theorem dPw_init_241 : decode cPw_init 241 = .ok (.getfield 34, 3) := by decide +kernel
theorem dPw_init_244 : decode cPw_init 244 = .ok (.aload_n 0, 1) := by decide +kernel
theorem dPw_init_245 : decode cPw_init 245 = .ok (.getfield 75, 3) := by decide +kernel
theorem dPw_init_248 : decode cPw_init 248 = .ok (.aload_n 0, 1) := by decide +kernel
theorem dPw_init_249 : decode cPw_init 249 = .ok (.getfield 78, 3) := by decide +kernel
theorem dPw_init_252 : decode cPw_init 252 = .ok (.invokespecial 56, 3) := by decide +kernel
theorem dPw_init_255 : decode cPw_init 255 = .ok (.invokespecial 83, 3) := by decide +kernel
theorem dPw_init_258 : decode cPw_init 258 = .ok (.putfield 84, 3) := by decide +kernel
theorem dPw_init_261 : decode cPw_init 261 = .ok (.return_, 1) := by decide +kernel
abbrev cPw_cell : ByteArray := prog_1_method_2_code
def yPw_cell : MethodName := ⟨RPw, "cell", "(IJ)I"⟩
def wsPw_cell : List Cond := .code yPw_cell cPw_cell 4 (some .int) :: TB
theorem dPw_cell_0 : decode cPw_cell 0 = .ok (.aload_n 0, 1) := by decide +kernel
theorem dPw_cell_1 : decode cPw_cell 1 = .ok (.getfield 41, 3) := by decide +kernel
theorem dPw_cell_4 : decode cPw_cell 4 = .ok (.iload_n 1, 1) := by decide +kernel
theorem dPw_cell_5 : decode cPw_cell 5 = .ok (.lload_n 2, 1) := by decide +kernel
theorem dPw_cell_6 : decode cPw_cell 6 = .ok (.invokevirtual 88, 3) := by decide +kernel
theorem dPw_cell_9 : decode cPw_cell 9 = .ok (.ireturn, 1) := by decide +kernel
abbrev cPw_node : ByteArray := prog_1_method_3_code
def yPw_node : MethodName := ⟨RPw, "node", "(III)I"⟩
def wsPw_node : List Cond := .code yPw_node cPw_node 4 (some .int) :: TB
theorem dPw_node_0 : decode cPw_node 0 = .ok (.aload_n 0, 1) := by decide +kernel
theorem dPw_node_1 : decode cPw_node 1 = .ok (.getfield 20, 3) := by decide +kernel
theorem dPw_node_4 : decode cPw_node 4 = .ok (.iload_n 1, 1) := by decide +kernel
theorem dPw_node_5 : decode cPw_node 5 = .ok (.iload_n 2, 1) := by decide +kernel
theorem dPw_node_6 : decode cPw_node 6 = .ok (.iload_n 3, 1) := by decide +kernel
theorem dPw_node_7 : decode cPw_node 7 = .ok (.aload_n 0, 1) := by decide +kernel
theorem dPw_node_8 : decode cPw_node 8 = .ok (.getfield 41, 3) := by decide +kernel
theorem dPw_node_11 : decode cPw_node 11 = .ok (.getfield 92, 3) := by decide +kernel
theorem dPw_node_14 : decode cPw_node 14 = .ok (.invokevirtual 95, 3) := by decide +kernel
theorem dPw_node_17 : decode cPw_node 17 = .ok (.ireturn, 1) := by decide +kernel
abbrev cPw_paragraph : ByteArray := prog_1_method_4_code
def yPw_paragraph : MethodName := ⟨RPw, "paragraph", "(II)I"⟩
def wsPw_paragraph : List Cond := .code yPw_paragraph cPw_paragraph 3 (some .int) :: TB
theorem dPw_paragraph_0 : decode cPw_paragraph 0 = .ok (.iload_n 1, 1) := by decide +kernel
theorem dPw_paragraph_1 : decode cPw_paragraph 1 = .ok (.ifCond .eq 17, 3) := by decide +kernel
theorem dPw_paragraph_4 : decode cPw_paragraph 4 = .ok (.aload_n 0, 1) := by decide +kernel
theorem dPw_paragraph_5 : decode cPw_paragraph 5 = .ok (.getfield 20, 3) := by decide +kernel
theorem dPw_paragraph_8 : decode cPw_paragraph 8 = .ok (.iload_n 1, 1) := by decide +kernel
theorem dPw_paragraph_9 : decode cPw_paragraph 9 = .ok (.invokevirtual 99, 3) := by decide +kernel
theorem dPw_paragraph_12 : decode cPw_paragraph 12 = .ok (.ifCond .ne 6, 3) := by decide +kernel
theorem dPw_paragraph_15 : decode cPw_paragraph 15 = .ok (.bipush (-2), 2) := by decide +kernel
theorem dPw_paragraph_17 : decode cPw_paragraph 17 = .ok (.ireturn, 1) := by decide +kernel
theorem dPw_paragraph_18 : decode cPw_paragraph 18 = .ok (.aload_n 0, 1) := by decide +kernel
theorem dPw_paragraph_19 : decode cPw_paragraph 19 = .ok (.getfield 27, 3) := by decide +kernel
theorem dPw_paragraph_22 : decode cPw_paragraph 22 = .ok (.iload_n 1, 1) := by decide +kernel
theorem dPw_paragraph_23 : decode cPw_paragraph 23 = .ok (.iload_n 2, 1) := by decide +kernel
theorem dPw_paragraph_24 : decode cPw_paragraph 24 = .ok (.invokevirtual 103, 3) := by decide +kernel
theorem dPw_paragraph_27 : decode cPw_paragraph 27 = .ok (.ireturn, 1) := by decide +kernel
abbrev cPw_answer : ByteArray := prog_1_method_5_code
def yPw_answer : MethodName := ⟨RPw, "answer", "(II)I"⟩
def wsPw_answer : List Cond := .code yPw_answer cPw_answer 3 (some .int) :: TB
theorem dPw_answer_0 : decode cPw_answer 0 = .ok (.aload_n 0, 1) := by decide +kernel
theorem dPw_answer_1 : decode cPw_answer 1 = .ok (.getfield 20, 3) := by decide +kernel
theorem dPw_answer_4 : decode cPw_answer 4 = .ok (.iload_n 1, 1) := by decide +kernel
theorem dPw_answer_5 : decode cPw_answer 5 = .ok (.invokevirtual 106, 3) := by decide +kernel
theorem dPw_answer_8 : decode cPw_answer 8 = .ok (.bipush 25, 2) := by decide +kernel
theorem dPw_answer_10 : decode cPw_answer 10 = .ok (.if_icmp .eq 6, 3) := by decide +kernel
theorem dPw_answer_13 : decode cPw_answer 13 = .ok (.bipush (-2), 2) := by decide +kernel
theorem dPw_answer_15 : decode cPw_answer 15 = .ok (.ireturn, 1) := by decide +kernel
theorem dPw_answer_16 : decode cPw_answer 16 = .ok (.iload_n 2, 1) := by decide +kernel
theorem dPw_answer_17 : decode cPw_answer 17 = .ok (.ifCond .lt 9, 3) := by decide +kernel
theorem dPw_answer_20 : decode cPw_answer 20 = .ok (.iload_n 2, 1) := by decide +kernel
theorem dPw_answer_21 : decode cPw_answer 21 = .ok (.bipush 9, 2) := by decide +kernel
theorem dPw_answer_23 : decode cPw_answer 23 = .ok (.if_icmp .le 6, 3) := by decide +kernel
theorem dPw_answer_26 : decode cPw_answer 26 = .ok (.bipush (-4), 2) := by decide +kernel
theorem dPw_answer_28 : decode cPw_answer 28 = .ok (.ireturn, 1) := by decide +kernel
theorem dPw_answer_29 : decode cPw_answer 29 = .ok (.aload_n 0, 1) := by decide +kernel
theorem dPw_answer_30 : decode cPw_answer 30 = .ok (.getfield 34, 3) := by decide +kernel
theorem dPw_answer_33 : decode cPw_answer 33 = .ok (.iload_n 1, 1) := by decide +kernel
theorem dPw_answer_34 : decode cPw_answer 34 = .ok (.iload_n 2, 1) := by decide +kernel
theorem dPw_answer_35 : decode cPw_answer 35 = .ok (.aload_n 0, 1) := by decide +kernel
theorem dPw_answer_36 : decode cPw_answer 36 = .ok (.getfield 41, 3) := by decide +kernel
theorem dPw_answer_39 : decode cPw_answer 39 = .ok (.iload_n 1, 1) := by decide +kernel
theorem dPw_answer_40 : decode cPw_answer 40 = .ok (.invokevirtual 110, 3) := by decide +kernel
theorem dPw_answer_43 : decode cPw_answer 43 = .ok (.invokevirtual 113, 3) := by decide +kernel
theorem dPw_answer_46 : decode cPw_answer 46 = .ok (.ireturn, 1) := by decide +kernel
abbrev cPw_run : ByteArray := prog_1_method_6_code
def yPw_run : MethodName := ⟨RPw, "run", "(I)I"⟩
def wsPw_run : List Cond := .code yPw_run cPw_run 2 (some .int) :: TB
theorem dPw_run_0 : decode cPw_run 0 = .ok (.aload_n 0, 1) := by decide +kernel
theorem dPw_run_1 : decode cPw_run 1 = .ok (.getfield 27, 3) := by decide +kernel
theorem dPw_run_4 : decode cPw_run 4 = .ok (.iload_n 1, 1) := by decide +kernel
theorem dPw_run_5 : decode cPw_run 5 = .ok (.invokevirtual 117, 3) := by decide +kernel
theorem dPw_run_8 : decode cPw_run 8 = .ok (.ifCond .ne 6, 3) := by decide +kernel
theorem dPw_run_11 : decode cPw_run 11 = .ok (.bipush (-2), 2) := by decide +kernel
theorem dPw_run_13 : decode cPw_run 13 = .ok (.ireturn, 1) := by decide +kernel
theorem dPw_run_14 : decode cPw_run 14 = .ok (.aload_n 0, 1) := by decide +kernel
theorem dPw_run_15 : decode cPw_run 15 = .ok (.getfield 48, 3) := by decide +kernel
theorem dPw_run_18 : decode cPw_run 18 = .ok (.aload_n 0, 1) := by decide +kernel
theorem dPw_run_19 : decode cPw_run 19 = .ok (.getfield 13, 3) := by decide +kernel
theorem dPw_run_22 : decode cPw_run 22 = .ok (.invokevirtual 120, 3) := by decide +kernel
theorem dPw_run_25 : decode cPw_run 25 = .ok (.aload_n 0, 1) := by decide +kernel
theorem dPw_run_26 : decode cPw_run 26 = .ok (.getfield 62, 3) := by decide +kernel
theorem dPw_run_29 : decode cPw_run 29 = .ok (.iload_n 1, 1) := by decide +kernel
theorem dPw_run_30 : decode cPw_run 30 = .ok (.invokevirtual 124, 3) := by decide +kernel
theorem dPw_run_33 : decode cPw_run 33 = .ok (.aload_n 0, 1) := by decide +kernel
theorem dPw_run_34 : decode cPw_run 34 = .ok (.getfield 62, 3) := by decide +kernel
theorem dPw_run_37 : decode cPw_run 37 = .ok (.invokevirtual 127, 3) := by decide +kernel
theorem dPw_run_40 : decode cPw_run 40 = .ok (.aload_n 0, 1) := by decide +kernel
theorem dPw_run_41 : decode cPw_run 41 = .ok (.getfield 48, 3) := by decide +kernel
theorem dPw_run_44 : decode cPw_run 44 = .ok (.getfield 130, 3) := by decide +kernel
theorem dPw_run_47 : decode cPw_run 47 = .ok (.ireturn, 1) := by decide +kernel
abbrev cPw_get : ByteArray := prog_1_method_7_code
def yPw_get : MethodName := ⟨RPw, "get", "(I)J"⟩
def wsPw_get : List Cond := .code yPw_get cPw_get 2 (some .long) :: TB
theorem dPw_get_0 : decode cPw_get 0 = .ok (.aload_n 0, 1) := by decide +kernel
theorem dPw_get_1 : decode cPw_get 1 = .ok (.getfield 41, 3) := by decide +kernel
theorem dPw_get_4 : decode cPw_get 4 = .ok (.iload_n 1, 1) := by decide +kernel
theorem dPw_get_5 : decode cPw_get 5 = .ok (.invokevirtual 133, 3) := by decide +kernel
theorem dPw_get_8 : decode cPw_get 8 = .ok (.ifCond .ne 13, 3) := by decide +kernel
theorem dPw_get_11 : decode cPw_get 11 = .ok (.new 136, 3) := by decide +kernel
theorem dPw_get_14 : decode cPw_get 14 = .ok (.dup, 1) := by decide +kernel
theorem dPw_get_15 : decode cPw_get 15 = .ok (.ldc 138, 2) := by decide +kernel
theorem dPw_get_17 : decode cPw_get 17 = .ok (.invokespecial 140, 3) := by decide +kernel
theorem dPw_get_20 : decode cPw_get 20 = .ok (.athrow, 1) := by decide +kernel
theorem dPw_get_21 : decode cPw_get 21 = .ok (.aload_n 0, 1) := by decide +kernel
theorem dPw_get_22 : decode cPw_get 22 = .ok (.getfield 41, 3) := by decide +kernel
theorem dPw_get_25 : decode cPw_get 25 = .ok (.iload_n 1, 1) := by decide +kernel
theorem dPw_get_26 : decode cPw_get 26 = .ok (.invokevirtual 143, 3) := by decide +kernel
theorem dPw_get_29 : decode cPw_get 29 = .ok (.lreturn, 1) := by decide +kernel
abbrev cPw_order : ByteArray := prog_1_method_8_code
def yPw_order : MethodName := ⟨RPw, "order", "(I)I"⟩
def wsPw_order : List Cond := .code yPw_order cPw_order 2 (some .int) :: TB
theorem dPw_order_0 : decode cPw_order 0 = .ok (.aload_n 0, 1) := by decide +kernel
theorem dPw_order_1 : decode cPw_order 1 = .ok (.getfield 48, 3) := by decide +kernel
theorem dPw_order_4 : decode cPw_order 4 = .ok (.iload_n 1, 1) := by decide +kernel
theorem dPw_order_5 : decode cPw_order 5 = .ok (.invokevirtual 147, 3) := by decide +kernel
theorem dPw_order_8 : decode cPw_order 8 = .ok (.ireturn, 1) := by decide +kernel
abbrev cPw_second : ByteArray := prog_1_method_9_code
def yPw_second : MethodName := ⟨RPw, "second", "(I)I"⟩
def wsPw_second : List Cond := .code yPw_second cPw_second 2 (some .int) :: TB
theorem dPw_second_0 : decode cPw_second 0 = .ok (.aload_n 0, 1) := by decide +kernel
theorem dPw_second_1 : decode cPw_second 1 = .ok (.getfield 27, 3) := by decide +kernel
theorem dPw_second_4 : decode cPw_second 4 = .ok (.iload_n 1, 1) := by decide +kernel
theorem dPw_second_5 : decode cPw_second 5 = .ok (.invokevirtual 117, 3) := by decide +kernel
theorem dPw_second_8 : decode cPw_second 8 = .ok (.ifCond .ne 6, 3) := by decide +kernel
theorem dPw_second_11 : decode cPw_second 11 = .ok (.bipush (-2), 2) := by decide +kernel
theorem dPw_second_13 : decode cPw_second 13 = .ok (.ireturn, 1) := by decide +kernel
theorem dPw_second_14 : decode cPw_second 14 = .ok (.aload_n 0, 1) := by decide +kernel
theorem dPw_second_15 : decode cPw_second 15 = .ok (.getfield 66, 3) := by decide +kernel
theorem dPw_second_18 : decode cPw_second 18 = .ok (.aload_n 0, 1) := by decide +kernel
theorem dPw_second_19 : decode cPw_second 19 = .ok (.getfield 41, 3) := by decide +kernel
theorem dPw_second_22 : decode cPw_second 22 = .ok (.invokevirtual 150, 3) := by decide +kernel
theorem dPw_second_25 : decode cPw_second 25 = .ok (.aload_n 0, 1) := by decide +kernel
theorem dPw_second_26 : decode cPw_second 26 = .ok (.getfield 69, 3) := by decide +kernel
theorem dPw_second_29 : decode cPw_second 29 = .ok (.aload_n 0, 1) := by decide +kernel
theorem dPw_second_30 : decode cPw_second 30 = .ok (.getfield 13, 3) := by decide +kernel
theorem dPw_second_33 : decode cPw_second 33 = .ok (.invokevirtual 120, 3) := by decide +kernel
theorem dPw_second_36 : decode cPw_second 36 = .ok (.aload_n 0, 1) := by decide +kernel
theorem dPw_second_37 : decode cPw_second 37 = .ok (.getfield 72, 3) := by decide +kernel
theorem dPw_second_40 : decode cPw_second 40 = .ok (.iload_n 1, 1) := by decide +kernel
theorem dPw_second_41 : decode cPw_second 41 = .ok (.invokevirtual 124, 3) := by decide +kernel
theorem dPw_second_44 : decode cPw_second 44 = .ok (.aload_n 0, 1) := by decide +kernel
theorem dPw_second_45 : decode cPw_second 45 = .ok (.getfield 72, 3) := by decide +kernel
theorem dPw_second_48 : decode cPw_second 48 = .ok (.invokevirtual 127, 3) := by decide +kernel
theorem dPw_second_51 : decode cPw_second 51 = .ok (.aload_n 0, 1) := by decide +kernel
theorem dPw_second_52 : decode cPw_second 52 = .ok (.getfield 75, 3) := by decide +kernel
theorem dPw_second_55 : decode cPw_second 55 = .ok (.aload_n 0, 1) := by decide +kernel
theorem dPw_second_56 : decode cPw_second 56 = .ok (.getfield 41, 3) := by decide +kernel
theorem dPw_second_59 : decode cPw_second 59 = .ok (.invokevirtual 150, 3) := by decide +kernel
theorem dPw_second_62 : decode cPw_second 62 = .ok (.aload_n 0, 1) := by decide +kernel
theorem dPw_second_63 : decode cPw_second 63 = .ok (.getfield 78, 3) := by decide +kernel
theorem dPw_second_66 : decode cPw_second 66 = .ok (.aload_n 0, 1) := by decide +kernel
theorem dPw_second_67 : decode cPw_second 67 = .ok (.getfield 13, 3) := by decide +kernel
theorem dPw_second_70 : decode cPw_second 70 = .ok (.invokevirtual 120, 3) := by decide +kernel
theorem dPw_second_73 : decode cPw_second 73 = .ok (.aload_n 0, 1) := by decide +kernel
theorem dPw_second_74 : decode cPw_second 74 = .ok (.getfield 84, 3) := by decide +kernel
theorem dPw_second_77 : decode cPw_second 77 = .ok (.iload_n 1, 1) := by decide +kernel
theorem dPw_second_78 : decode cPw_second 78 = .ok (.invokevirtual 154, 3) := by decide +kernel
theorem dPw_second_81 : decode cPw_second 81 = .ok (.aload_n 0, 1) := by decide +kernel
theorem dPw_second_82 : decode cPw_second 82 = .ok (.getfield 69, 3) := by decide +kernel
theorem dPw_second_85 : decode cPw_second 85 = .ok (.aload_n 0, 1) := by decide +kernel
theorem dPw_second_86 : decode cPw_second 86 = .ok (.getfield 78, 3) := by decide +kernel
theorem dPw_second_89 : decode cPw_second 89 = .ok (.invokevirtual 157, 3) := by decide +kernel
theorem dPw_second_92 : decode cPw_second 92 = .ok (.ifCond .eq 21, 3) := by decide +kernel
theorem dPw_second_95 : decode cPw_second 95 = .ok (.aload_n 0, 1) := by decide +kernel
theorem dPw_second_96 : decode cPw_second 96 = .ok (.getfield 66, 3) := by decide +kernel
theorem dPw_second_99 : decode cPw_second 99 = .ok (.aload_n 0, 1) := by decide +kernel
theorem dPw_second_100 : decode cPw_second 100 = .ok (.getfield 75, 3) := by decide +kernel
theorem dPw_second_103 : decode cPw_second 103 = .ok (.invokevirtual 161, 3) := by decide +kernel
theorem dPw_second_106 : decode cPw_second 106 = .ok (.ifCond .eq 7, 3) := by decide +kernel
theorem dPw_second_109 : decode cPw_second 109 = .ok (.iconst 1, 1) := by decide +kernel
theorem dPw_second_110 : decode cPw_second 110 = .ok (.goto 4, 3) := by decide +kernel
theorem dPw_second_113 : decode cPw_second 113 = .ok (.iconst 0, 1) := by decide +kernel
theorem dPw_second_114 : decode cPw_second 114 = .ok (.ireturn, 1) := by decide +kernel
abbrev cPw_place : ByteArray := prog_1_method_10_code
def yPw_place : MethodName := ⟨RPw, "place", "()I"⟩
def wsPw_place : List Cond := .code yPw_place cPw_place 1 (some .int) :: TB
theorem dPw_place_0 : decode cPw_place 0 = .ok (.aload_n 0, 1) := by decide +kernel
theorem dPw_place_1 : decode cPw_place 1 = .ok (.getfield 48, 3) := by decide +kernel
theorem dPw_place_4 : decode cPw_place 4 = .ok (.getfield 164, 3) := by decide +kernel
theorem dPw_place_7 : decode cPw_place 7 = .ok (.ireturn, 1) := by decide +kernel
abbrev cPw_raised : ByteArray := prog_1_method_11_code
def yPw_raised : MethodName := ⟨RPw, "raised", "()I"⟩
def wsPw_raised : List Cond := .code yPw_raised cPw_raised 1 (some .int) :: TB
theorem dPw_raised_0 : decode cPw_raised 0 = .ok (.aload_n 0, 1) := by decide +kernel
theorem dPw_raised_1 : decode cPw_raised 1 = .ok (.getfield 48, 3) := by decide +kernel
theorem dPw_raised_4 : decode cPw_raised 4 = .ok (.getfield 167, 3) := by decide +kernel
theorem dPw_raised_7 : decode cPw_raised 7 = .ok (.ireturn, 1) := by decide +kernel
abbrev cPw_goOn : ByteArray := prog_1_method_12_code
def yPw_goOn : MethodName := ⟨RPw, "goOn", "(J)I"⟩
def wsPw_goOn : List Cond := .code yPw_goOn cPw_goOn 3 (some .int) :: TB
theorem dPw_goOn_0 : decode cPw_goOn 0 = .ok (.aload_n 0, 1) := by decide +kernel
theorem dPw_goOn_1 : decode cPw_goOn 1 = .ok (.getfield 48, 3) := by decide +kernel
theorem dPw_goOn_4 : decode cPw_goOn 4 = .ok (.getfield 130, 3) := by decide +kernel
theorem dPw_goOn_7 : decode cPw_goOn 7 = .ok (.ifCond .eq 6, 3) := by decide +kernel
theorem dPw_goOn_10 : decode cPw_goOn 10 = .ok (.bipush (-5), 2) := by decide +kernel
theorem dPw_goOn_12 : decode cPw_goOn 12 = .ok (.ireturn, 1) := by decide +kernel
theorem dPw_goOn_13 : decode cPw_goOn 13 = .ok (.aload_n 0, 1) := by decide +kernel
theorem dPw_goOn_14 : decode cPw_goOn 14 = .ok (.getfield 48, 3) := by decide +kernel
theorem dPw_goOn_17 : decode cPw_goOn 17 = .ok (.lload_n 1, 1) := by decide +kernel
theorem dPw_goOn_18 : decode cPw_goOn 18 = .ok (.invokestatic 9, 3) := by decide +kernel
theorem dPw_goOn_21 : decode cPw_goOn 21 = .ok (.invokevirtual 170, 3) := by decide +kernel
theorem dPw_goOn_24 : decode cPw_goOn 24 = .ok (.aload_n 0, 1) := by decide +kernel
theorem dPw_goOn_25 : decode cPw_goOn 25 = .ok (.getfield 62, 3) := by decide +kernel
theorem dPw_goOn_28 : decode cPw_goOn 28 = .ok (.invokevirtual 127, 3) := by decide +kernel
theorem dPw_goOn_31 : decode cPw_goOn 31 = .ok (.aload_n 0, 1) := by decide +kernel
theorem dPw_goOn_32 : decode cPw_goOn 32 = .ok (.getfield 48, 3) := by decide +kernel
theorem dPw_goOn_35 : decode cPw_goOn 35 = .ok (.getfield 130, 3) := by decide +kernel
theorem dPw_goOn_38 : decode cPw_goOn 38 = .ok (.ireturn, 1) := by decide +kernel
abbrev cPw_result : ByteArray := prog_1_method_13_code
def yPw_result : MethodName := ⟨RPw, "result", "()J"⟩
def wsPw_result : List Cond := .code yPw_result cPw_result 1 (some .long) :: TB
theorem dPw_result_0 : decode cPw_result 0 = .ok (.aload_n 0, 1) := by decide +kernel
theorem dPw_result_1 : decode cPw_result 1 = .ok (.getfield 48, 3) := by decide +kernel
theorem dPw_result_4 : decode cPw_result 4 = .ok (.getfield 173, 3) := by decide +kernel
theorem dPw_result_7 : decode cPw_result 7 = .ok (.lreturn, 1) := by decide +kernel
abbrev cPw_count : ByteArray := prog_1_method_14_code
def yPw_count : MethodName := ⟨RPw, "count", "(I)I"⟩
def wsPw_count : List Cond := .code yPw_count cPw_count 2 (some .int) :: TB
theorem dPw_count_0 : decode cPw_count 0 = .ok (.iload_n 1, 1) := by decide +kernel
theorem dPw_count_1 : decode cPw_count 1 = .ok (.tableswitch 72 0 4 #[35, 43, 51, 59, 64], 35) := by decide +kernel
theorem dPw_count_36 : decode cPw_count 36 = .ok (.aload_n 0, 1) := by decide +kernel
theorem dPw_count_37 : decode cPw_count 37 = .ok (.getfield 41, 3) := by decide +kernel
theorem dPw_count_40 : decode cPw_count 40 = .ok (.getfield 92, 3) := by decide +kernel
theorem dPw_count_43 : decode cPw_count 43 = .ok (.ireturn, 1) := by decide +kernel
theorem dPw_count_44 : decode cPw_count 44 = .ok (.aload_n 0, 1) := by decide +kernel
theorem dPw_count_45 : decode cPw_count 45 = .ok (.getfield 20, 3) := by decide +kernel
theorem dPw_count_48 : decode cPw_count 48 = .ok (.getfield 177, 3) := by decide +kernel
theorem dPw_count_51 : decode cPw_count 51 = .ok (.ireturn, 1) := by decide +kernel
theorem dPw_count_52 : decode cPw_count 52 = .ok (.aload_n 0, 1) := by decide +kernel
theorem dPw_count_53 : decode cPw_count 53 = .ok (.getfield 27, 3) := by decide +kernel
theorem dPw_count_56 : decode cPw_count 56 = .ok (.getfield 180, 3) := by decide +kernel
theorem dPw_count_59 : decode cPw_count 59 = .ok (.ireturn, 1) := by decide +kernel
theorem dPw_count_60 : decode cPw_count 60 = .ok (.aload_n 0, 1) := by decide +kernel
theorem dPw_count_61 : decode cPw_count 61 = .ok (.invokevirtual 181, 3) := by decide +kernel
theorem dPw_count_64 : decode cPw_count 64 = .ok (.ireturn, 1) := by decide +kernel
theorem dPw_count_65 : decode cPw_count 65 = .ok (.aload_n 0, 1) := by decide +kernel
theorem dPw_count_66 : decode cPw_count 66 = .ok (.getfield 48, 3) := by decide +kernel
theorem dPw_count_69 : decode cPw_count 69 = .ok (.getfield 185, 3) := by decide +kernel
theorem dPw_count_72 : decode cPw_count 72 = .ok (.ireturn, 1) := by decide +kernel
theorem dPw_count_73 : decode cPw_count 73 = .ok (.iconst (-1), 1) := by decide +kernel
theorem dPw_count_74 : decode cPw_count 74 = .ok (.ireturn, 1) := by decide +kernel
abbrev cPw_allWaiting : ByteArray := prog_1_method_15_code
def yPw_allWaiting : MethodName := ⟨RPw, "allWaiting", "()I"⟩
def wsPw_allWaiting : List Cond := .code yPw_allWaiting cPw_allWaiting 3 (some .int) :: TB
theorem dPw_allWaiting_0 : decode cPw_allWaiting 0 = .ok (.iconst 0, 1) := by decide +kernel
theorem dPw_allWaiting_1 : decode cPw_allWaiting 1 = .ok (.istore_n 1, 1) := by decide +kernel
theorem dPw_allWaiting_2 : decode cPw_allWaiting 2 = .ok (.iconst 1, 1) := by decide +kernel
theorem dPw_allWaiting_3 : decode cPw_allWaiting 3 = .ok (.istore_n 2, 1) := by decide +kernel
theorem dPw_allWaiting_4 : decode cPw_allWaiting 4 = .ok (.iload_n 2, 1) := by decide +kernel
theorem dPw_allWaiting_5 : decode cPw_allWaiting 5 = .ok (.aload_n 0, 1) := by decide +kernel
theorem dPw_allWaiting_6 : decode cPw_allWaiting 6 = .ok (.getfield 20, 3) := by decide +kernel
theorem dPw_allWaiting_9 : decode cPw_allWaiting 9 = .ok (.getfield 177, 3) := by decide +kernel
theorem dPw_allWaiting_12 : decode cPw_allWaiting 12 = .ok (.if_icmp .gt 28, 3) := by decide +kernel
theorem dPw_allWaiting_15 : decode cPw_allWaiting 15 = .ok (.iload_n 1, 1) := by decide +kernel
theorem dPw_allWaiting_16 : decode cPw_allWaiting 16 = .ok (.aload_n 0, 1) := by decide +kernel
theorem dPw_allWaiting_17 : decode cPw_allWaiting 17 = .ok (.getfield 34, 3) := by decide +kernel
theorem dPw_allWaiting_20 : decode cPw_allWaiting 20 = .ok (.iload_n 2, 1) := by decide +kernel
theorem dPw_allWaiting_21 : decode cPw_allWaiting 21 = .ok (.aload_n 0, 1) := by decide +kernel
theorem dPw_allWaiting_22 : decode cPw_allWaiting 22 = .ok (.getfield 41, 3) := by decide +kernel
theorem dPw_allWaiting_25 : decode cPw_allWaiting 25 = .ok (.iload_n 2, 1) := by decide +kernel
theorem dPw_allWaiting_26 : decode cPw_allWaiting 26 = .ok (.invokevirtual 110, 3) := by decide +kernel
theorem dPw_allWaiting_29 : decode cPw_allWaiting 29 = .ok (.invokevirtual 186, 3) := by decide +kernel
theorem dPw_allWaiting_32 : decode cPw_allWaiting 32 = .ok (.iadd, 1) := by decide +kernel
theorem dPw_allWaiting_33 : decode cPw_allWaiting 33 = .ok (.istore_n 1, 1) := by decide +kernel
theorem dPw_allWaiting_34 : decode cPw_allWaiting 34 = .ok (.iinc 2 1, 3) := by decide +kernel
theorem dPw_allWaiting_37 : decode cPw_allWaiting 37 = .ok (.goto (-33), 3) := by decide +kernel
theorem dPw_allWaiting_40 : decode cPw_allWaiting 40 = .ok (.iload_n 1, 1) := by decide +kernel
theorem dPw_allWaiting_41 : decode cPw_allWaiting 41 = .ok (.ireturn, 1) := by decide +kernel
abbrev cPw_heldSteps : ByteArray := prog_1_method_16_code
def yPw_heldSteps : MethodName := ⟨RPw, "heldSteps", "(J)I"⟩
def wsPw_heldSteps : List Cond := .code yPw_heldSteps cPw_heldSteps 2 (some .int) :: TB
theorem dPw_heldSteps_0 : decode cPw_heldSteps 0 = .ok (.lconst 0, 1) := by decide +kernel
theorem dPw_heldSteps_1 : decode cPw_heldSteps 1 = .ok (.ldc2_w 189, 3) := by decide +kernel
theorem dPw_heldSteps_4 : decode cPw_heldSteps 4 = .ok (.lload_n 0, 1) := by decide +kernel
theorem dPw_heldSteps_5 : decode cPw_heldSteps 5 = .ok (.invokestatic 191, 3) := by decide +kernel
theorem dPw_heldSteps_8 : decode cPw_heldSteps 8 = .ok (.invokestatic 197, 3) := by decide +kernel
theorem dPw_heldSteps_11 : decode cPw_heldSteps 11 = .ok (.l2i, 1) := by decide +kernel
theorem dPw_heldSteps_12 : decode cPw_heldSteps 12 = .ok (.ireturn, 1) := by decide +kernel
