abbrev cLw_cell : ByteArray := method_2_code
def yLw_cell : MethodName := ⟨RLw, "cell", "([II)I"⟩
def wsLw_cell : List Cond := .code yLw_cell cLw_cell 2 (some .int) :: TB
theorem dLw_cell_0 : decode cLw_cell 0 = .ok (.iload_n 1, 1) := by decide +kernel
theorem dLw_cell_1 : decode cLw_cell 1 = .ok (.aload_n 0, 1) := by decide +kernel
theorem dLw_cell_2 : decode cLw_cell 2 = .ok (.arraylength, 1) := by decide +kernel
theorem dLw_cell_3 : decode cLw_cell 3 = .ok (.if_icmp .ge 9, 3) := by decide +kernel
theorem dLw_cell_6 : decode cLw_cell 6 = .ok (.aload_n 0, 1) := by decide +kernel
theorem dLw_cell_7 : decode cLw_cell 7 = .ok (.iload_n 1, 1) := by decide +kernel
theorem dLw_cell_8 : decode cLw_cell 8 = .ok (.iaload, 1) := by decide +kernel
theorem dLw_cell_9 : decode cLw_cell 9 = .ok (.goto 4, 3) := by decide +kernel
theorem dLw_cell_12 : decode cLw_cell 12 = .ok (.iconst 0, 1) := by decide +kernel
theorem dLw_cell_13 : decode cLw_cell 13 = .ok (.ireturn, 1) := by decide +kernel
abbrev cLw_get : ByteArray := method_3_code
def yLw_get : MethodName := ⟨RLw, "get", "(LParagraphWalk;I[J)I"⟩
theorem dLw_get_0 : decode cLw_get 0 = .ok (.aload_n 2, 1) := by decide +kernel
theorem dLw_get_1 : decode cLw_get 1 = .ok (.iconst 0, 1) := by decide +kernel
theorem dLw_get_2 : decode cLw_get 2 = .ok (.aload_n 0, 1) := by decide +kernel
theorem dLw_get_3 : decode cLw_get 3 = .ok (.iload_n 1, 1) := by decide +kernel
theorem dLw_get_4 : decode cLw_get 4 = .ok (.invokevirtual 7, 3) := by decide +kernel
theorem dLw_get_7 : decode cLw_get 7 = .ok (.lastore, 1) := by decide +kernel
theorem dLw_get_8 : decode cLw_get 8 = .ok (.goto 6, 3) := by decide +kernel
theorem dLw_get_11 : decode cLw_get 11 = .ok (.astore_n 3, 1) := by decide +kernel
theorem dLw_get_12 : decode cLw_get 12 = .ok (.iconst 1, 1) := by decide +kernel
theorem dLw_get_13 : decode cLw_get 13 = .ok (.ireturn, 1) := by decide +kernel
theorem dLw_get_14 : decode cLw_get 14 = .ok (.iconst 0, 1) := by decide +kernel
theorem dLw_get_15 : decode cLw_get 15 = .ok (.ireturn, 1) := by decide +kernel
abbrev cLw_law : ByteArray := code
theorem dLw_law_0 : decode cLw_law 0 = .ok (.new 8, 3) := by decide +kernel
theorem dLw_law_3 : decode cLw_law 3 = .ok (.dup, 1) := by decide +kernel
theorem dLw_law_4 : decode cLw_law 4 = .ok (.aload_n 0, 1) := by decide +kernel
theorem dLw_law_5 : decode cLw_law 5 = .ok (.iconst 0, 1) := by decide +kernel
theorem dLw_law_6 : decode cLw_law 6 = .ok (.invokestatic 15, 3) := by decide +kernel
theorem dLw_law_9 : decode cLw_law 9 = .ok (.i2l, 1) := by decide +kernel
theorem dLw_law_10 : decode cLw_law 10 = .ok (.invokespecial 21, 3) := by decide +kernel
theorem dLw_law_13 : decode cLw_law 13 = .ok (.astore_n 1, 1) := by decide +kernel
theorem dLw_law_14 : decode cLw_law 14 = .ok (.new 24, 3) := by decide +kernel
theorem dLw_law_17 : decode cLw_law 17 = .ok (.dup, 1) := by decide +kernel
theorem dLw_law_18 : decode cLw_law 18 = .ok (.aload_n 0, 1) := by decide +kernel
theorem dLw_law_19 : decode cLw_law 19 = .ok (.iconst 0, 1) := by decide +kernel
theorem dLw_law_20 : decode cLw_law 20 = .ok (.invokestatic 15, 3) := by decide +kernel
theorem dLw_law_23 : decode cLw_law 23 = .ok (.i2l, 1) := by decide +kernel
theorem dLw_law_24 : decode cLw_law 24 = .ok (.invokespecial 26, 3) := by decide +kernel
theorem dLw_law_27 : decode cLw_law 27 = .ok (.astore_n 2, 1) := by decide +kernel
theorem dLw_law_28 : decode cLw_law 28 = .ok (.iconst 1, 1) := by decide +kernel
theorem dLw_law_29 : decode cLw_law 29 = .ok (.newarray .long, 2) := by decide +kernel
theorem dLw_law_31 : decode cLw_law 31 = .ok (.astore_n 3, 1) := by decide +kernel
theorem dLw_law_32 : decode cLw_law 32 = .ok (.iconst 1, 1) := by decide +kernel
theorem dLw_law_33 : decode cLw_law 33 = .ok (.istore 4, 2) := by decide +kernel
theorem dLw_law_35 : decode cLw_law 35 = .ok (.iload 4, 2) := by decide +kernel
theorem dLw_law_37 : decode cLw_law 37 = .ok (.aload_n 0, 1) := by decide +kernel
theorem dLw_law_38 : decode cLw_law 38 = .ok (.arraylength, 1) := by decide +kernel
theorem dLw_law_39 : decode cLw_law 39 = .ok (.iconst 4, 1) := by decide +kernel
theorem dLw_law_40 : decode cLw_law 40 = .ok (.isub, 1) := by decide +kernel
theorem dLw_law_41 : decode cLw_law 41 = .ok (.if_icmp .gt 525, 3) := by decide +kernel
theorem dLw_law_44 : decode cLw_law 44 = .ok (.aload_n 0, 1) := by decide +kernel
theorem dLw_law_45 : decode cLw_law 45 = .ok (.iload 4, 2) := by decide +kernel
theorem dLw_law_47 : decode cLw_law 47 = .ok (.iaload, 1) := by decide +kernel
theorem dLw_law_48 : decode cLw_law 48 = .ok (.bipush 15, 2) := by decide +kernel
theorem dLw_law_50 : decode cLw_law 50 = .ok (.iand, 1) := by decide +kernel
theorem dLw_law_51 : decode cLw_law 51 = .ok (.tableswitch 509 0 12 #[65, 134, 183, 220, 257, 282, 337, 362, 387, 400, 413, 470, 484], 65) := by decide +kernel
theorem dLw_law_116 : decode cLw_law 116 = .ok (.aload_n 1, 1) := by decide +kernel
theorem dLw_law_117 : decode cLw_law 117 = .ok (.aload_n 0, 1) := by decide +kernel
theorem dLw_law_118 : decode cLw_law 118 = .ok (.iload 4, 2) := by decide +kernel
theorem dLw_law_120 : decode cLw_law 120 = .ok (.iconst 1, 1) := by decide +kernel
theorem dLw_law_121 : decode cLw_law 121 = .ok (.iadd, 1) := by decide +kernel
theorem dLw_law_122 : decode cLw_law 122 = .ok (.iaload, 1) := by decide +kernel
theorem dLw_law_123 : decode cLw_law 123 = .ok (.aload_n 0, 1) := by decide +kernel
theorem dLw_law_124 : decode cLw_law 124 = .ok (.iload 4, 2) := by decide +kernel
theorem dLw_law_126 : decode cLw_law 126 = .ok (.iconst 2, 1) := by decide +kernel
theorem dLw_law_127 : decode cLw_law 127 = .ok (.iadd, 1) := by decide +kernel
theorem dLw_law_128 : decode cLw_law 128 = .ok (.iaload, 1) := by decide +kernel
theorem dLw_law_129 : decode cLw_law 129 = .ok (.i2l, 1) := by decide +kernel
theorem dLw_law_130 : decode cLw_law 130 = .ok (.bipush 32, 2) := by decide +kernel
theorem dLw_law_132 : decode cLw_law 132 = .ok (.lshl, 1) := by decide +kernel
theorem dLw_law_133 : decode cLw_law 133 = .ok (.aload_n 0, 1) := by decide +kernel
theorem dLw_law_134 : decode cLw_law 134 = .ok (.iload 4, 2) := by decide +kernel
theorem dLw_law_136 : decode cLw_law 136 = .ok (.iconst 3, 1) := by decide +kernel
theorem dLw_law_137 : decode cLw_law 137 = .ok (.iadd, 1) := by decide +kernel
theorem dLw_law_138 : decode cLw_law 138 = .ok (.iaload, 1) := by decide +kernel
theorem dLw_law_139 : decode cLw_law 139 = .ok (.i2l, 1) := by decide +kernel
theorem dLw_law_140 : decode cLw_law 140 = .ok (.ldc2_w 27, 3) := by decide +kernel
theorem dLw_law_143 : decode cLw_law 143 = .ok (.land, 1) := by decide +kernel
theorem dLw_law_144 : decode cLw_law 144 = .ok (.lor, 1) := by decide +kernel
theorem dLw_law_145 : decode cLw_law 145 = .ok (.invokevirtual 29, 3) := by decide +kernel
theorem dLw_law_148 : decode cLw_law 148 = .ok (.aload_n 2, 1) := by decide +kernel
theorem dLw_law_149 : decode cLw_law 149 = .ok (.aload_n 0, 1) := by decide +kernel
theorem dLw_law_150 : decode cLw_law 150 = .ok (.iload 4, 2) := by decide +kernel
theorem dLw_law_152 : decode cLw_law 152 = .ok (.iconst 1, 1) := by decide +kernel
theorem dLw_law_153 : decode cLw_law 153 = .ok (.iadd, 1) := by decide +kernel
theorem dLw_law_154 : decode cLw_law 154 = .ok (.iaload, 1) := by decide +kernel
theorem dLw_law_155 : decode cLw_law 155 = .ok (.aload_n 0, 1) := by decide +kernel
theorem dLw_law_156 : decode cLw_law 156 = .ok (.iload 4, 2) := by decide +kernel
theorem dLw_law_158 : decode cLw_law 158 = .ok (.iconst 2, 1) := by decide +kernel
theorem dLw_law_159 : decode cLw_law 159 = .ok (.iadd, 1) := by decide +kernel
theorem dLw_law_160 : decode cLw_law 160 = .ok (.iaload, 1) := by decide +kernel
theorem dLw_law_161 : decode cLw_law 161 = .ok (.i2l, 1) := by decide +kernel
theorem dLw_law_162 : decode cLw_law 162 = .ok (.bipush 32, 2) := by decide +kernel
theorem dLw_law_164 : decode cLw_law 164 = .ok (.lshl, 1) := by decide +kernel
theorem dLw_law_165 : decode cLw_law 165 = .ok (.aload_n 0, 1) := by decide +kernel
theorem dLw_law_166 : decode cLw_law 166 = .ok (.iload 4, 2) := by decide +kernel
theorem dLw_law_168 : decode cLw_law 168 = .ok (.iconst 3, 1) := by decide +kernel
theorem dLw_law_169 : decode cLw_law 169 = .ok (.iadd, 1) := by decide +kernel
theorem dLw_law_170 : decode cLw_law 170 = .ok (.iaload, 1) := by decide +kernel
theorem dLw_law_171 : decode cLw_law 171 = .ok (.i2l, 1) := by decide +kernel
theorem dLw_law_172 : decode cLw_law 172 = .ok (.ldc2_w 27, 3) := by decide +kernel
theorem dLw_law_175 : decode cLw_law 175 = .ok (.land, 1) := by decide +kernel
theorem dLw_law_176 : decode cLw_law 176 = .ok (.lor, 1) := by decide +kernel
theorem dLw_law_177 : decode cLw_law 177 = .ok (.invokevirtual 32, 3) := by decide +kernel
theorem dLw_law_180 : decode cLw_law 180 = .ok (.if_icmp .eq 380, 3) := by decide +kernel
theorem dLw_law_183 : decode cLw_law 183 = .ok (.iconst 0, 1) := by decide +kernel
theorem dLw_law_184 : decode cLw_law 184 = .ok (.ireturn, 1) := by decide +kernel
theorem dLw_law_185 : decode cLw_law 185 = .ok (.aload_n 1, 1) := by decide +kernel
theorem dLw_law_186 : decode cLw_law 186 = .ok (.aload_n 0, 1) := by decide +kernel
theorem dLw_law_187 : decode cLw_law 187 = .ok (.iload 4, 2) := by decide +kernel
theorem dLw_law_189 : decode cLw_law 189 = .ok (.iconst 1, 1) := by decide +kernel
theorem dLw_law_190 : decode cLw_law 190 = .ok (.iadd, 1) := by decide +kernel
theorem dLw_law_191 : decode cLw_law 191 = .ok (.iaload, 1) := by decide +kernel
theorem dLw_law_192 : decode cLw_law 192 = .ok (.aload_n 0, 1) := by decide +kernel
theorem dLw_law_193 : decode cLw_law 193 = .ok (.iload 4, 2) := by decide +kernel
theorem dLw_law_195 : decode cLw_law 195 = .ok (.iconst 2, 1) := by decide +kernel
theorem dLw_law_196 : decode cLw_law 196 = .ok (.iadd, 1) := by decide +kernel
theorem dLw_law_197 : decode cLw_law 197 = .ok (.iaload, 1) := by decide +kernel
theorem dLw_law_198 : decode cLw_law 198 = .ok (.aload_n 0, 1) := by decide +kernel
theorem dLw_law_199 : decode cLw_law 199 = .ok (.iload 4, 2) := by decide +kernel
theorem dLw_law_201 : decode cLw_law 201 = .ok (.iconst 3, 1) := by decide +kernel
theorem dLw_law_202 : decode cLw_law 202 = .ok (.iadd, 1) := by decide +kernel
theorem dLw_law_203 : decode cLw_law 203 = .ok (.iaload, 1) := by decide +kernel
theorem dLw_law_204 : decode cLw_law 204 = .ok (.invokevirtual 33, 3) := by decide +kernel
theorem dLw_law_207 : decode cLw_law 207 = .ok (.aload_n 2, 1) := by decide +kernel
theorem dLw_law_208 : decode cLw_law 208 = .ok (.aload_n 0, 1) := by decide +kernel
theorem dLw_law_209 : decode cLw_law 209 = .ok (.iload 4, 2) := by decide +kernel
theorem dLw_law_211 : decode cLw_law 211 = .ok (.iconst 1, 1) := by decide +kernel
theorem dLw_law_212 : decode cLw_law 212 = .ok (.iadd, 1) := by decide +kernel
theorem dLw_law_213 : decode cLw_law 213 = .ok (.iaload, 1) := by decide +kernel
theorem dLw_law_214 : decode cLw_law 214 = .ok (.aload_n 0, 1) := by decide +kernel
theorem dLw_law_215 : decode cLw_law 215 = .ok (.iload 4, 2) := by decide +kernel
theorem dLw_law_217 : decode cLw_law 217 = .ok (.iconst 2, 1) := by decide +kernel
theorem dLw_law_218 : decode cLw_law 218 = .ok (.iadd, 1) := by decide +kernel
theorem dLw_law_219 : decode cLw_law 219 = .ok (.iaload, 1) := by decide +kernel
theorem dLw_law_220 : decode cLw_law 220 = .ok (.aload_n 0, 1) := by decide +kernel
theorem dLw_law_221 : decode cLw_law 221 = .ok (.iload 4, 2) := by decide +kernel
theorem dLw_law_223 : decode cLw_law 223 = .ok (.iconst 3, 1) := by decide +kernel
theorem dLw_law_224 : decode cLw_law 224 = .ok (.iadd, 1) := by decide +kernel
theorem dLw_law_225 : decode cLw_law 225 = .ok (.iaload, 1) := by decide +kernel
theorem dLw_law_226 : decode cLw_law 226 = .ok (.invokevirtual 37, 3) := by decide +kernel
theorem dLw_law_229 : decode cLw_law 229 = .ok (.if_icmp .eq 331, 3) := by decide +kernel
theorem dLw_law_232 : decode cLw_law 232 = .ok (.iconst 0, 1) := by decide +kernel
theorem dLw_law_233 : decode cLw_law 233 = .ok (.ireturn, 1) := by decide +kernel
theorem dLw_law_234 : decode cLw_law 234 = .ok (.aload_n 1, 1) := by decide +kernel
theorem dLw_law_235 : decode cLw_law 235 = .ok (.aload_n 0, 1) := by decide +kernel
theorem dLw_law_236 : decode cLw_law 236 = .ok (.iload 4, 2) := by decide +kernel
theorem dLw_law_238 : decode cLw_law 238 = .ok (.iconst 1, 1) := by decide +kernel
theorem dLw_law_239 : decode cLw_law 239 = .ok (.iadd, 1) := by decide +kernel
theorem dLw_law_240 : decode cLw_law 240 = .ok (.iaload, 1) := by decide +kernel
theorem dLw_law_241 : decode cLw_law 241 = .ok (.aload_n 0, 1) := by decide +kernel
theorem dLw_law_242 : decode cLw_law 242 = .ok (.iload 4, 2) := by decide +kernel
theorem dLw_law_244 : decode cLw_law 244 = .ok (.iconst 2, 1) := by decide +kernel
theorem dLw_law_245 : decode cLw_law 245 = .ok (.iadd, 1) := by decide +kernel
theorem dLw_law_246 : decode cLw_law 246 = .ok (.iaload, 1) := by decide +kernel
theorem dLw_law_247 : decode cLw_law 247 = .ok (.invokevirtual 38, 3) := by decide +kernel
theorem dLw_law_250 : decode cLw_law 250 = .ok (.aload_n 2, 1) := by decide +kernel
theorem dLw_law_251 : decode cLw_law 251 = .ok (.aload_n 0, 1) := by decide +kernel
theorem dLw_law_252 : decode cLw_law 252 = .ok (.iload 4, 2) := by decide +kernel
theorem dLw_law_254 : decode cLw_law 254 = .ok (.iconst 1, 1) := by decide +kernel
theorem dLw_law_255 : decode cLw_law 255 = .ok (.iadd, 1) := by decide +kernel
theorem dLw_law_256 : decode cLw_law 256 = .ok (.iaload, 1) := by decide +kernel
theorem dLw_law_257 : decode cLw_law 257 = .ok (.aload_n 0, 1) := by decide +kernel
theorem dLw_law_258 : decode cLw_law 258 = .ok (.iload 4, 2) := by decide +kernel
theorem dLw_law_260 : decode cLw_law 260 = .ok (.iconst 2, 1) := by decide +kernel
theorem dLw_law_261 : decode cLw_law 261 = .ok (.iadd, 1) := by decide +kernel
theorem dLw_law_262 : decode cLw_law 262 = .ok (.iaload, 1) := by decide +kernel
theorem dLw_law_263 : decode cLw_law 263 = .ok (.invokevirtual 42, 3) := by decide +kernel
theorem dLw_law_266 : decode cLw_law 266 = .ok (.if_icmp .eq 294, 3) := by decide +kernel
theorem dLw_law_269 : decode cLw_law 269 = .ok (.iconst 0, 1) := by decide +kernel
theorem dLw_law_270 : decode cLw_law 270 = .ok (.ireturn, 1) := by decide +kernel
theorem dLw_law_271 : decode cLw_law 271 = .ok (.aload_n 1, 1) := by decide +kernel
theorem dLw_law_272 : decode cLw_law 272 = .ok (.aload_n 0, 1) := by decide +kernel
theorem dLw_law_273 : decode cLw_law 273 = .ok (.iload 4, 2) := by decide +kernel
theorem dLw_law_275 : decode cLw_law 275 = .ok (.iconst 1, 1) := by decide +kernel
theorem dLw_law_276 : decode cLw_law 276 = .ok (.iadd, 1) := by decide +kernel
theorem dLw_law_277 : decode cLw_law 277 = .ok (.iaload, 1) := by decide +kernel
theorem dLw_law_278 : decode cLw_law 278 = .ok (.aload_n 0, 1) := by decide +kernel
theorem dLw_law_279 : decode cLw_law 279 = .ok (.iload 4, 2) := by decide +kernel
theorem dLw_law_281 : decode cLw_law 281 = .ok (.iconst 2, 1) := by decide +kernel
theorem dLw_law_282 : decode cLw_law 282 = .ok (.iadd, 1) := by decide +kernel
theorem dLw_law_283 : decode cLw_law 283 = .ok (.iaload, 1) := by decide +kernel
theorem dLw_law_284 : decode cLw_law 284 = .ok (.invokevirtual 43, 3) := by decide +kernel
theorem dLw_law_287 : decode cLw_law 287 = .ok (.aload_n 2, 1) := by decide +kernel
theorem dLw_law_288 : decode cLw_law 288 = .ok (.aload_n 0, 1) := by decide +kernel
theorem dLw_law_289 : decode cLw_law 289 = .ok (.iload 4, 2) := by decide +kernel
theorem dLw_law_291 : decode cLw_law 291 = .ok (.iconst 1, 1) := by decide +kernel
theorem dLw_law_292 : decode cLw_law 292 = .ok (.iadd, 1) := by decide +kernel
theorem dLw_law_293 : decode cLw_law 293 = .ok (.iaload, 1) := by decide +kernel
theorem dLw_law_294 : decode cLw_law 294 = .ok (.aload_n 0, 1) := by decide +kernel
theorem dLw_law_295 : decode cLw_law 295 = .ok (.iload 4, 2) := by decide +kernel
theorem dLw_law_297 : decode cLw_law 297 = .ok (.iconst 2, 1) := by decide +kernel
theorem dLw_law_298 : decode cLw_law 298 = .ok (.iadd, 1) := by decide +kernel
theorem dLw_law_299 : decode cLw_law 299 = .ok (.iaload, 1) := by decide +kernel
theorem dLw_law_300 : decode cLw_law 300 = .ok (.invokevirtual 46, 3) := by decide +kernel
theorem dLw_law_303 : decode cLw_law 303 = .ok (.if_icmp .eq 257, 3) := by decide +kernel
theorem dLw_law_306 : decode cLw_law 306 = .ok (.iconst 0, 1) := by decide +kernel
theorem dLw_law_307 : decode cLw_law 307 = .ok (.ireturn, 1) := by decide +kernel
theorem dLw_law_308 : decode cLw_law 308 = .ok (.aload_n 1, 1) := by decide +kernel
theorem dLw_law_309 : decode cLw_law 309 = .ok (.aload_n 0, 1) := by decide +kernel
theorem dLw_law_310 : decode cLw_law 310 = .ok (.iload 4, 2) := by decide +kernel
theorem dLw_law_312 : decode cLw_law 312 = .ok (.iconst 1, 1) := by decide +kernel
theorem dLw_law_313 : decode cLw_law 313 = .ok (.iadd, 1) := by decide +kernel
theorem dLw_law_314 : decode cLw_law 314 = .ok (.iaload, 1) := by decide +kernel
theorem dLw_law_315 : decode cLw_law 315 = .ok (.invokevirtual 47, 3) := by decide +kernel
theorem dLw_law_318 : decode cLw_law 318 = .ok (.aload_n 2, 1) := by decide +kernel
theorem dLw_law_319 : decode cLw_law 319 = .ok (.aload_n 0, 1) := by decide +kernel
theorem dLw_law_320 : decode cLw_law 320 = .ok (.iload 4, 2) := by decide +kernel
theorem dLw_law_322 : decode cLw_law 322 = .ok (.iconst 1, 1) := by decide +kernel
theorem dLw_law_323 : decode cLw_law 323 = .ok (.iadd, 1) := by decide +kernel
theorem dLw_law_324 : decode cLw_law 324 = .ok (.iaload, 1) := by decide +kernel
theorem dLw_law_325 : decode cLw_law 325 = .ok (.invokevirtual 51, 3) := by decide +kernel
theorem dLw_law_328 : decode cLw_law 328 = .ok (.if_icmp .eq 232, 3) := by decide +kernel
theorem dLw_law_331 : decode cLw_law 331 = .ok (.iconst 0, 1) := by decide +kernel
theorem dLw_law_332 : decode cLw_law 332 = .ok (.ireturn, 1) := by decide +kernel
theorem dLw_law_333 : decode cLw_law 333 = .ok (.aload_n 1, 1) := by decide +kernel
theorem dLw_law_334 : decode cLw_law 334 = .ok (.aload_n 0, 1) := by decide +kernel
theorem dLw_law_335 : decode cLw_law 335 = .ok (.iload 4, 2) := by decide +kernel
theorem dLw_law_337 : decode cLw_law 337 = .ok (.iconst 1, 1) := by decide +kernel
theorem dLw_law_338 : decode cLw_law 338 = .ok (.iadd, 1) := by decide +kernel
theorem dLw_law_339 : decode cLw_law 339 = .ok (.iaload, 1) := by decide +kernel
theorem dLw_law_340 : decode cLw_law 340 = .ok (.aload_n 3, 1) := by decide +kernel
theorem dLw_law_341 : decode cLw_law 341 = .ok (.invokestatic 52, 3) := by decide +kernel
theorem dLw_law_344 : decode cLw_law 344 = .ok (.istore 5, 2) := by decide +kernel
theorem dLw_law_346 : decode cLw_law 346 = .ok (.aload_n 2, 1) := by decide +kernel
theorem dLw_law_347 : decode cLw_law 347 = .ok (.aload_n 0, 1) := by decide +kernel
theorem dLw_law_348 : decode cLw_law 348 = .ok (.iload 4, 2) := by decide +kernel
theorem dLw_law_350 : decode cLw_law 350 = .ok (.iconst 1, 1) := by decide +kernel
theorem dLw_law_351 : decode cLw_law 351 = .ok (.iadd, 1) := by decide +kernel
theorem dLw_law_352 : decode cLw_law 352 = .ok (.iaload, 1) := by decide +kernel
theorem dLw_law_353 : decode cLw_law 353 = .ok (.invokevirtual 55, 3) := by decide +kernel
theorem dLw_law_356 : decode cLw_law 356 = .ok (.lstore 6, 2) := by decide +kernel
theorem dLw_law_358 : decode cLw_law 358 = .ok (.aload_n 2, 1) := by decide +kernel
theorem dLw_law_359 : decode cLw_law 359 = .ok (.invokevirtual 56, 3) := by decide +kernel
theorem dLw_law_362 : decode cLw_law 362 = .ok (.iload 5, 2) := by decide +kernel
theorem dLw_law_364 : decode cLw_law 364 = .ok (.if_icmp .eq 5, 3) := by decide +kernel
theorem dLw_law_367 : decode cLw_law 367 = .ok (.iconst 0, 1) := by decide +kernel
theorem dLw_law_368 : decode cLw_law 368 = .ok (.ireturn, 1) := by decide +kernel
theorem dLw_law_369 : decode cLw_law 369 = .ok (.iload 5, 2) := by decide +kernel
theorem dLw_law_371 : decode cLw_law 371 = .ok (.ifCond .ne 14, 3) := by decide +kernel
theorem dLw_law_374 : decode cLw_law 374 = .ok (.aload_n 3, 1) := by decide +kernel
theorem dLw_law_375 : decode cLw_law 375 = .ok (.iconst 0, 1) := by decide +kernel
theorem dLw_law_376 : decode cLw_law 376 = .ok (.laload, 1) := by decide +kernel
theorem dLw_law_377 : decode cLw_law 377 = .ok (.lload 6, 2) := by decide +kernel
theorem dLw_law_379 : decode cLw_law 379 = .ok (.lcmp, 1) := by decide +kernel
theorem dLw_law_380 : decode cLw_law 380 = .ok (.ifCond .eq 5, 3) := by decide +kernel
theorem dLw_law_383 : decode cLw_law 383 = .ok (.iconst 0, 1) := by decide +kernel
theorem dLw_law_384 : decode cLw_law 384 = .ok (.ireturn, 1) := by decide +kernel
theorem dLw_law_385 : decode cLw_law 385 = .ok (.goto 175, 3) := by decide +kernel
theorem dLw_law_388 : decode cLw_law 388 = .ok (.aload_n 1, 1) := by decide +kernel
theorem dLw_law_389 : decode cLw_law 389 = .ok (.aload_n 0, 1) := by decide +kernel
theorem dLw_law_390 : decode cLw_law 390 = .ok (.iload 4, 2) := by decide +kernel
theorem dLw_law_392 : decode cLw_law 392 = .ok (.iconst 1, 1) := by decide +kernel
theorem dLw_law_393 : decode cLw_law 393 = .ok (.iadd, 1) := by decide +kernel
theorem dLw_law_394 : decode cLw_law 394 = .ok (.iaload, 1) := by decide +kernel
theorem dLw_law_395 : decode cLw_law 395 = .ok (.invokevirtual 60, 3) := by decide +kernel
theorem dLw_law_398 : decode cLw_law 398 = .ok (.aload_n 2, 1) := by decide +kernel
theorem dLw_law_399 : decode cLw_law 399 = .ok (.aload_n 0, 1) := by decide +kernel
theorem dLw_law_400 : decode cLw_law 400 = .ok (.iload 4, 2) := by decide +kernel
theorem dLw_law_402 : decode cLw_law 402 = .ok (.iconst 1, 1) := by decide +kernel
theorem dLw_law_403 : decode cLw_law 403 = .ok (.iadd, 1) := by decide +kernel
theorem dLw_law_404 : decode cLw_law 404 = .ok (.iaload, 1) := by decide +kernel
theorem dLw_law_405 : decode cLw_law 405 = .ok (.invokevirtual 63, 3) := by decide +kernel
theorem dLw_law_408 : decode cLw_law 408 = .ok (.if_icmp .eq 152, 3) := by decide +kernel
theorem dLw_law_411 : decode cLw_law 411 = .ok (.iconst 0, 1) := by decide +kernel
theorem dLw_law_412 : decode cLw_law 412 = .ok (.ireturn, 1) := by decide +kernel
theorem dLw_law_413 : decode cLw_law 413 = .ok (.aload_n 1, 1) := by decide +kernel
theorem dLw_law_414 : decode cLw_law 414 = .ok (.aload_n 0, 1) := by decide +kernel
theorem dLw_law_415 : decode cLw_law 415 = .ok (.iload 4, 2) := by decide +kernel
theorem dLw_law_417 : decode cLw_law 417 = .ok (.iconst 1, 1) := by decide +kernel
theorem dLw_law_418 : decode cLw_law 418 = .ok (.iadd, 1) := by decide +kernel
theorem dLw_law_419 : decode cLw_law 419 = .ok (.iaload, 1) := by decide +kernel
theorem dLw_law_420 : decode cLw_law 420 = .ok (.invokevirtual 64, 3) := by decide +kernel
theorem dLw_law_423 : decode cLw_law 423 = .ok (.aload_n 2, 1) := by decide +kernel
theorem dLw_law_424 : decode cLw_law 424 = .ok (.aload_n 0, 1) := by decide +kernel
theorem dLw_law_425 : decode cLw_law 425 = .ok (.iload 4, 2) := by decide +kernel
theorem dLw_law_427 : decode cLw_law 427 = .ok (.iconst 1, 1) := by decide +kernel
theorem dLw_law_428 : decode cLw_law 428 = .ok (.iadd, 1) := by decide +kernel
theorem dLw_law_429 : decode cLw_law 429 = .ok (.iaload, 1) := by decide +kernel
theorem dLw_law_430 : decode cLw_law 430 = .ok (.invokevirtual 67, 3) := by decide +kernel
theorem dLw_law_433 : decode cLw_law 433 = .ok (.if_icmp .eq 127, 3) := by decide +kernel
theorem dLw_law_436 : decode cLw_law 436 = .ok (.iconst 0, 1) := by decide +kernel
theorem dLw_law_437 : decode cLw_law 437 = .ok (.ireturn, 1) := by decide +kernel
theorem dLw_law_438 : decode cLw_law 438 = .ok (.aload_n 1, 1) := by decide +kernel
theorem dLw_law_439 : decode cLw_law 439 = .ok (.invokevirtual 68, 3) := by decide +kernel
theorem dLw_law_442 : decode cLw_law 442 = .ok (.aload_n 2, 1) := by decide +kernel
theorem dLw_law_443 : decode cLw_law 443 = .ok (.invokevirtual 71, 3) := by decide +kernel
theorem dLw_law_446 : decode cLw_law 446 = .ok (.if_icmp .eq 114, 3) := by decide +kernel
theorem dLw_law_449 : decode cLw_law 449 = .ok (.iconst 0, 1) := by decide +kernel
theorem dLw_law_450 : decode cLw_law 450 = .ok (.ireturn, 1) := by decide +kernel
theorem dLw_law_451 : decode cLw_law 451 = .ok (.aload_n 1, 1) := by decide +kernel
theorem dLw_law_452 : decode cLw_law 452 = .ok (.invokevirtual 72, 3) := by decide +kernel
theorem dLw_law_455 : decode cLw_law 455 = .ok (.aload_n 2, 1) := by decide +kernel
theorem dLw_law_456 : decode cLw_law 456 = .ok (.invokevirtual 75, 3) := by decide +kernel
theorem dLw_law_459 : decode cLw_law 459 = .ok (.if_icmp .eq 101, 3) := by decide +kernel
theorem dLw_law_462 : decode cLw_law 462 = .ok (.iconst 0, 1) := by decide +kernel
theorem dLw_law_463 : decode cLw_law 463 = .ok (.ireturn, 1) := by decide +kernel
theorem dLw_law_464 : decode cLw_law 464 = .ok (.aload_n 1, 1) := by decide +kernel
theorem dLw_law_465 : decode cLw_law 465 = .ok (.aload_n 0, 1) := by decide +kernel
theorem dLw_law_466 : decode cLw_law 466 = .ok (.iload 4, 2) := by decide +kernel
theorem dLw_law_468 : decode cLw_law 468 = .ok (.iconst 1, 1) := by decide +kernel
theorem dLw_law_469 : decode cLw_law 469 = .ok (.iadd, 1) := by decide +kernel
theorem dLw_law_470 : decode cLw_law 470 = .ok (.iaload, 1) := by decide +kernel
theorem dLw_law_471 : decode cLw_law 471 = .ok (.i2l, 1) := by decide +kernel
theorem dLw_law_472 : decode cLw_law 472 = .ok (.bipush 32, 2) := by decide +kernel
theorem dLw_law_474 : decode cLw_law 474 = .ok (.lshl, 1) := by decide +kernel
theorem dLw_law_475 : decode cLw_law 475 = .ok (.aload_n 0, 1) := by decide +kernel
theorem dLw_law_476 : decode cLw_law 476 = .ok (.iload 4, 2) := by decide +kernel
theorem dLw_law_478 : decode cLw_law 478 = .ok (.iconst 2, 1) := by decide +kernel
theorem dLw_law_479 : decode cLw_law 479 = .ok (.iadd, 1) := by decide +kernel
theorem dLw_law_480 : decode cLw_law 480 = .ok (.iaload, 1) := by decide +kernel
theorem dLw_law_481 : decode cLw_law 481 = .ok (.i2l, 1) := by decide +kernel
theorem dLw_law_482 : decode cLw_law 482 = .ok (.ldc2_w 27, 3) := by decide +kernel
theorem dLw_law_485 : decode cLw_law 485 = .ok (.land, 1) := by decide +kernel
theorem dLw_law_486 : decode cLw_law 486 = .ok (.lor, 1) := by decide +kernel
theorem dLw_law_487 : decode cLw_law 487 = .ok (.invokevirtual 76, 3) := by decide +kernel
theorem dLw_law_490 : decode cLw_law 490 = .ok (.aload_n 2, 1) := by decide +kernel
theorem dLw_law_491 : decode cLw_law 491 = .ok (.aload_n 0, 1) := by decide +kernel
theorem dLw_law_492 : decode cLw_law 492 = .ok (.iload 4, 2) := by decide +kernel
theorem dLw_law_494 : decode cLw_law 494 = .ok (.iconst 1, 1) := by decide +kernel
theorem dLw_law_495 : decode cLw_law 495 = .ok (.iadd, 1) := by decide +kernel
theorem dLw_law_496 : decode cLw_law 496 = .ok (.iaload, 1) := by decide +kernel
theorem dLw_law_497 : decode cLw_law 497 = .ok (.i2l, 1) := by decide +kernel
theorem dLw_law_498 : decode cLw_law 498 = .ok (.bipush 32, 2) := by decide +kernel
theorem dLw_law_500 : decode cLw_law 500 = .ok (.lshl, 1) := by decide +kernel
theorem dLw_law_501 : decode cLw_law 501 = .ok (.aload_n 0, 1) := by decide +kernel
theorem dLw_law_502 : decode cLw_law 502 = .ok (.iload 4, 2) := by decide +kernel
theorem dLw_law_504 : decode cLw_law 504 = .ok (.iconst 2, 1) := by decide +kernel
theorem dLw_law_505 : decode cLw_law 505 = .ok (.iadd, 1) := by decide +kernel
theorem dLw_law_506 : decode cLw_law 506 = .ok (.iaload, 1) := by decide +kernel
theorem dLw_law_507 : decode cLw_law 507 = .ok (.i2l, 1) := by decide +kernel
theorem dLw_law_508 : decode cLw_law 508 = .ok (.ldc2_w 27, 3) := by decide +kernel
theorem dLw_law_511 : decode cLw_law 511 = .ok (.land, 1) := by decide +kernel
theorem dLw_law_512 : decode cLw_law 512 = .ok (.lor, 1) := by decide +kernel
theorem dLw_law_513 : decode cLw_law 513 = .ok (.invokevirtual 80, 3) := by decide +kernel
theorem dLw_law_516 : decode cLw_law 516 = .ok (.if_icmp .eq 44, 3) := by decide +kernel
theorem dLw_law_519 : decode cLw_law 519 = .ok (.iconst 0, 1) := by decide +kernel
theorem dLw_law_520 : decode cLw_law 520 = .ok (.ireturn, 1) := by decide +kernel
theorem dLw_law_521 : decode cLw_law 521 = .ok (.aload_n 1, 1) := by decide +kernel
theorem dLw_law_522 : decode cLw_law 522 = .ok (.invokevirtual 81, 3) := by decide +kernel
theorem dLw_law_525 : decode cLw_law 525 = .ok (.aload_n 2, 1) := by decide +kernel
theorem dLw_law_526 : decode cLw_law 526 = .ok (.invokevirtual 85, 3) := by decide +kernel
theorem dLw_law_529 : decode cLw_law 529 = .ok (.lcmp, 1) := by decide +kernel
theorem dLw_law_530 : decode cLw_law 530 = .ok (.ifCond .eq 30, 3) := by decide +kernel
theorem dLw_law_533 : decode cLw_law 533 = .ok (.iconst 0, 1) := by decide +kernel
theorem dLw_law_534 : decode cLw_law 534 = .ok (.ireturn, 1) := by decide +kernel
theorem dLw_law_535 : decode cLw_law 535 = .ok (.aload_n 1, 1) := by decide +kernel
theorem dLw_law_536 : decode cLw_law 536 = .ok (.aload_n 0, 1) := by decide +kernel
theorem dLw_law_537 : decode cLw_law 537 = .ok (.iload 4, 2) := by decide +kernel
theorem dLw_law_539 : decode cLw_law 539 = .ok (.iconst 1, 1) := by decide +kernel
theorem dLw_law_540 : decode cLw_law 540 = .ok (.iadd, 1) := by decide +kernel
theorem dLw_law_541 : decode cLw_law 541 = .ok (.iaload, 1) := by decide +kernel
theorem dLw_law_542 : decode cLw_law 542 = .ok (.invokevirtual 86, 3) := by decide +kernel
theorem dLw_law_545 : decode cLw_law 545 = .ok (.aload_n 2, 1) := by decide +kernel
theorem dLw_law_546 : decode cLw_law 546 = .ok (.aload_n 0, 1) := by decide +kernel
theorem dLw_law_547 : decode cLw_law 547 = .ok (.iload 4, 2) := by decide +kernel
theorem dLw_law_549 : decode cLw_law 549 = .ok (.iconst 1, 1) := by decide +kernel
theorem dLw_law_550 : decode cLw_law 550 = .ok (.iadd, 1) := by decide +kernel
theorem dLw_law_551 : decode cLw_law 551 = .ok (.iaload, 1) := by decide +kernel
theorem dLw_law_552 : decode cLw_law 552 = .ok (.invokevirtual 89, 3) := by decide +kernel
theorem dLw_law_555 : decode cLw_law 555 = .ok (.if_icmp .eq 5, 3) := by decide +kernel
theorem dLw_law_558 : decode cLw_law 558 = .ok (.iconst 0, 1) := by decide +kernel
theorem dLw_law_559 : decode cLw_law 559 = .ok (.ireturn, 1) := by decide +kernel
theorem dLw_law_560 : decode cLw_law 560 = .ok (.iinc 4 4, 3) := by decide +kernel
theorem dLw_law_563 : decode cLw_law 563 = .ok (.goto (-528), 3) := by decide +kernel
theorem dLw_law_566 : decode cLw_law 566 = .ok (.iconst 1, 1) := by decide +kernel
theorem dLw_law_567 : decode cLw_law 567 = .ok (.ireturn, 1) := by decide +kernel
