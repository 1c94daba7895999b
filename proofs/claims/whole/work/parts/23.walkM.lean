/-! Model.next()V -/
abbrev b_Model_next : ByteArray := prog_13_method_12_code
def y_Model_next : MethodName := ⟨R_Model, "next", "()V"⟩
theorem a_Model_next : y_Model_next.cls = R_Model ∧ y_Model_next.cls ≠ "java/lang/invoke/MethodHandle" ∧ y_Model_next.cls ≠ "java/lang/invoke/VarHandle" ∧ (parseMethodDescriptor y_Model_next.desc).map (fun d => d.parameters.length) = some 0 := by decide +kernel
abbrev rm_Model_next : Room := { frames := 1, cells := 0, slots := 0, locals := 25 }
theorem w_1046 : Cond.fieldLink R_Model 99 R_Model "at" "I" ∈ TB := tb_in 1046 (by decide +kernel) (by decide +kernel)
theorem w_1047 : Cond.fieldLink R_Model 102 R_Model "begun" "I" ∈ TB := tb_in 1047 (by decide +kernel) (by decide +kernel)
theorem w_1048 : Cond.fieldLink R_Model 105 R_Model "token" "I" ∈ TB := tb_in 1048 (by decide +kernel) (by decide +kernel)
theorem w_1049 : Cond.fieldLink R_Model 108 R_Model "value" "I" ∈ TB := tb_in 1049 (by decide +kernel) (by decide +kernel)
theorem w_989 : Cond.methodLink R_Model 111 y_Model_wordFrom ∈ TB := tb_in 989 (by decide +kernel) (by decide +kernel)
theorem w_991 : Cond.instanceMethod y_Model_wordFrom ∈ TB := tb_in 991 (by decide +kernel) (by decide +kernel)
theorem w_31 : Cond.selects R_Model y_Model_wordFrom y_Model_wordFrom ∈ TB := tb_in 31 (by decide +kernel) (by decide +kernel)
theorem w_985 : Cond.code y_Model_next b_Model_next 3 none ∈ TB := tb_in 985 (by decide +kernel) (by decide +kernel)
theorem d_Model_next_0 : decode b_Model_next 0 = .ok (.aload_n 0, 1) := by decide +kernel
theorem d_Model_next_1 : decode b_Model_next 1 = .ok (.getfield 99, 3) := by decide +kernel
theorem d_Model_next_4 : decode b_Model_next 4 = .ok (.aload_n 0, 1) := by decide +kernel
theorem d_Model_next_5 : decode b_Model_next 5 = .ok (.getfield 67, 3) := by decide +kernel
theorem d_Model_next_8 : decode b_Model_next 8 = .ok (.if_icmp .ge 44, 3) := by decide +kernel
theorem d_Model_next_11 : decode b_Model_next 11 = .ok (.aload_n 0, 1) := by decide +kernel
theorem d_Model_next_12 : decode b_Model_next 12 = .ok (.getfield 25, 3) := by decide +kernel
theorem d_Model_next_15 : decode b_Model_next 15 = .ok (.aload_n 0, 1) := by decide +kernel
theorem d_Model_next_16 : decode b_Model_next 16 = .ok (.getfield 99, 3) := by decide +kernel
theorem d_Model_next_19 : decode b_Model_next 19 = .ok (.iaload, 1) := by decide +kernel
theorem d_Model_next_20 : decode b_Model_next 20 = .ok (.bipush 32, 2) := by decide +kernel
theorem d_Model_next_22 : decode b_Model_next 22 = .ok (.if_icmp .eq 17, 3) := by decide +kernel
theorem d_Model_next_25 : decode b_Model_next 25 = .ok (.aload_n 0, 1) := by decide +kernel
theorem d_Model_next_26 : decode b_Model_next 26 = .ok (.getfield 25, 3) := by decide +kernel
theorem d_Model_next_29 : decode b_Model_next 29 = .ok (.aload_n 0, 1) := by decide +kernel
theorem d_Model_next_30 : decode b_Model_next 30 = .ok (.getfield 99, 3) := by decide +kernel
theorem d_Model_next_33 : decode b_Model_next 33 = .ok (.iaload, 1) := by decide +kernel
theorem d_Model_next_34 : decode b_Model_next 34 = .ok (.bipush 10, 2) := by decide +kernel
theorem d_Model_next_36 : decode b_Model_next 36 = .ok (.if_icmp .ne 16, 3) := by decide +kernel
theorem d_Model_next_39 : decode b_Model_next 39 = .ok (.aload_n 0, 1) := by decide +kernel
theorem d_Model_next_40 : decode b_Model_next 40 = .ok (.dup, 1) := by decide +kernel
theorem d_Model_next_41 : decode b_Model_next 41 = .ok (.getfield 99, 3) := by decide +kernel
theorem d_Model_next_44 : decode b_Model_next 44 = .ok (.iconst 1, 1) := by decide +kernel
theorem d_Model_next_45 : decode b_Model_next 45 = .ok (.iadd, 1) := by decide +kernel
theorem d_Model_next_46 : decode b_Model_next 46 = .ok (.putfield 99, 3) := by decide +kernel
theorem d_Model_next_49 : decode b_Model_next 49 = .ok (.goto (-49), 3) := by decide +kernel
theorem d_Model_next_52 : decode b_Model_next 52 = .ok (.aload_n 0, 1) := by decide +kernel
theorem d_Model_next_53 : decode b_Model_next 53 = .ok (.aload_n 0, 1) := by decide +kernel
theorem d_Model_next_54 : decode b_Model_next 54 = .ok (.getfield 99, 3) := by decide +kernel
theorem d_Model_next_57 : decode b_Model_next 57 = .ok (.putfield 102, 3) := by decide +kernel
theorem d_Model_next_60 : decode b_Model_next 60 = .ok (.aload_n 0, 1) := by decide +kernel
theorem d_Model_next_61 : decode b_Model_next 61 = .ok (.iconst 0, 1) := by decide +kernel
theorem d_Model_next_62 : decode b_Model_next 62 = .ok (.putfield 105, 3) := by decide +kernel
theorem d_Model_next_65 : decode b_Model_next 65 = .ok (.aload_n 0, 1) := by decide +kernel
theorem d_Model_next_66 : decode b_Model_next 66 = .ok (.iconst 0, 1) := by decide +kernel
theorem d_Model_next_67 : decode b_Model_next 67 = .ok (.putfield 108, 3) := by decide +kernel
theorem d_Model_next_70 : decode b_Model_next 70 = .ok (.aload_n 0, 1) := by decide +kernel
theorem d_Model_next_71 : decode b_Model_next 71 = .ok (.getfield 99, 3) := by decide +kernel
theorem d_Model_next_74 : decode b_Model_next 74 = .ok (.aload_n 0, 1) := by decide +kernel
theorem d_Model_next_75 : decode b_Model_next 75 = .ok (.getfield 67, 3) := by decide +kernel
theorem d_Model_next_78 : decode b_Model_next 78 = .ok (.if_icmp .ne 4, 3) := by decide +kernel
theorem d_Model_next_81 : decode b_Model_next 81 = .ok (.return_, 1) := by decide +kernel
theorem d_Model_next_82 : decode b_Model_next 82 = .ok (.aload_n 0, 1) := by decide +kernel
theorem d_Model_next_83 : decode b_Model_next 83 = .ok (.getfield 25, 3) := by decide +kernel
theorem d_Model_next_86 : decode b_Model_next 86 = .ok (.aload_n 0, 1) := by decide +kernel
theorem d_Model_next_87 : decode b_Model_next 87 = .ok (.getfield 99, 3) := by decide +kernel
theorem d_Model_next_90 : decode b_Model_next 90 = .ok (.iaload, 1) := by decide +kernel
theorem d_Model_next_91 : decode b_Model_next 91 = .ok (.istore_n 1, 1) := by decide +kernel
theorem d_Model_next_92 : decode b_Model_next 92 = .ok (.iload_n 1, 1) := by decide +kernel
theorem d_Model_next_93 : decode b_Model_next 93 = .ok (.bipush 97, 2) := by decide +kernel
theorem d_Model_next_95 : decode b_Model_next 95 = .ok (.bipush 122, 2) := by decide +kernel
theorem d_Model_next_97 : decode b_Model_next 97 = .ok (.invokestatic 78, 3) := by decide +kernel
theorem d_Model_next_100 : decode b_Model_next 100 = .ok (.ifCond .eq 117, 3) := by decide +kernel
theorem d_Model_next_103 : decode b_Model_next 103 = .ok (.aload_n 0, 1) := by decide +kernel
theorem d_Model_next_104 : decode b_Model_next 104 = .ok (.getfield 99, 3) := by decide +kernel
theorem d_Model_next_107 : decode b_Model_next 107 = .ok (.aload_n 0, 1) := by decide +kernel
theorem d_Model_next_108 : decode b_Model_next 108 = .ok (.getfield 67, 3) := by decide +kernel
theorem d_Model_next_111 : decode b_Model_next 111 = .ok (.if_icmp .ge 35, 3) := by decide +kernel
theorem d_Model_next_114 : decode b_Model_next 114 = .ok (.aload_n 0, 1) := by decide +kernel
theorem d_Model_next_115 : decode b_Model_next 115 = .ok (.getfield 25, 3) := by decide +kernel
theorem d_Model_next_118 : decode b_Model_next 118 = .ok (.aload_n 0, 1) := by decide +kernel
theorem d_Model_next_119 : decode b_Model_next 119 = .ok (.getfield 99, 3) := by decide +kernel
theorem d_Model_next_122 : decode b_Model_next 122 = .ok (.iaload, 1) := by decide +kernel
theorem d_Model_next_123 : decode b_Model_next 123 = .ok (.bipush 97, 2) := by decide +kernel
theorem d_Model_next_125 : decode b_Model_next 125 = .ok (.bipush 122, 2) := by decide +kernel
theorem d_Model_next_127 : decode b_Model_next 127 = .ok (.invokestatic 78, 3) := by decide +kernel
theorem d_Model_next_130 : decode b_Model_next 130 = .ok (.ifCond .eq 16, 3) := by decide +kernel
theorem d_Model_next_133 : decode b_Model_next 133 = .ok (.aload_n 0, 1) := by decide +kernel
theorem d_Model_next_134 : decode b_Model_next 134 = .ok (.dup, 1) := by decide +kernel
theorem d_Model_next_135 : decode b_Model_next 135 = .ok (.getfield 99, 3) := by decide +kernel
theorem d_Model_next_138 : decode b_Model_next 138 = .ok (.iconst 1, 1) := by decide +kernel
theorem d_Model_next_139 : decode b_Model_next 139 = .ok (.iadd, 1) := by decide +kernel
theorem d_Model_next_140 : decode b_Model_next 140 = .ok (.putfield 99, 3) := by decide +kernel
theorem d_Model_next_143 : decode b_Model_next 143 = .ok (.goto (-40), 3) := by decide +kernel
theorem d_Model_next_146 : decode b_Model_next 146 = .ok (.aload_n 0, 1) := by decide +kernel
theorem d_Model_next_147 : decode b_Model_next 147 = .ok (.aload_n 0, 1) := by decide +kernel
theorem d_Model_next_148 : decode b_Model_next 148 = .ok (.getfield 102, 3) := by decide +kernel
theorem d_Model_next_151 : decode b_Model_next 151 = .ok (.aload_n 0, 1) := by decide +kernel
theorem d_Model_next_152 : decode b_Model_next 152 = .ok (.getfield 99, 3) := by decide +kernel
theorem d_Model_next_155 : decode b_Model_next 155 = .ok (.invokevirtual 111, 3) := by decide +kernel
theorem d_Model_next_158 : decode b_Model_next 158 = .ok (.istore_n 2, 1) := by decide +kernel
theorem d_Model_next_159 : decode b_Model_next 159 = .ok (.aload_n 0, 1) := by decide +kernel
theorem d_Model_next_160 : decode b_Model_next 160 = .ok (.iload_n 2, 1) := by decide +kernel
theorem d_Model_next_161 : decode b_Model_next 161 = .ok (.iconst 3, 1) := by decide +kernel
theorem d_Model_next_162 : decode b_Model_next 162 = .ok (.if_icmp .ge 7, 3) := by decide +kernel
theorem d_Model_next_165 : decode b_Model_next 165 = .ok (.iconst 3, 1) := by decide +kernel
theorem d_Model_next_166 : decode b_Model_next 166 = .ok (.goto 29, 3) := by decide +kernel
theorem d_Model_next_169 : decode b_Model_next 169 = .ok (.iload_n 2, 1) := by decide +kernel
theorem d_Model_next_170 : decode b_Model_next 170 = .ok (.bipush 9, 2) := by decide +kernel
theorem d_Model_next_172 : decode b_Model_next 172 = .ok (.if_icmp .ge 7, 3) := by decide +kernel
theorem d_Model_next_175 : decode b_Model_next 175 = .ok (.iconst 2, 1) := by decide +kernel
theorem d_Model_next_176 : decode b_Model_next 176 = .ok (.goto 19, 3) := by decide +kernel
theorem d_Model_next_179 : decode b_Model_next 179 = .ok (.iload_n 2, 1) := by decide +kernel
theorem d_Model_next_180 : decode b_Model_next 180 = .ok (.bipush 12, 2) := by decide +kernel
theorem d_Model_next_182 : decode b_Model_next 182 = .ok (.if_icmp .ne 7, 3) := by decide +kernel
theorem d_Model_next_185 : decode b_Model_next 185 = .ok (.iconst (-1), 1) := by decide +kernel
theorem d_Model_next_186 : decode b_Model_next 186 = .ok (.goto 9, 3) := by decide +kernel
theorem d_Model_next_189 : decode b_Model_next 189 = .ok (.iconst 4, 1) := by decide +kernel
theorem d_Model_next_190 : decode b_Model_next 190 = .ok (.iload_n 2, 1) := by decide +kernel
theorem d_Model_next_191 : decode b_Model_next 191 = .ok (.iadd, 1) := by decide +kernel
theorem d_Model_next_192 : decode b_Model_next 192 = .ok (.bipush 9, 2) := by decide +kernel
theorem d_Model_next_194 : decode b_Model_next 194 = .ok (.isub, 1) := by decide +kernel
theorem d_Model_next_195 : decode b_Model_next 195 = .ok (.putfield 105, 3) := by decide +kernel
theorem d_Model_next_198 : decode b_Model_next 198 = .ok (.aload_n 0, 1) := by decide +kernel
theorem d_Model_next_199 : decode b_Model_next 199 = .ok (.iload_n 2, 1) := by decide +kernel
theorem d_Model_next_200 : decode b_Model_next 200 = .ok (.iconst 3, 1) := by decide +kernel
theorem d_Model_next_201 : decode b_Model_next 201 = .ok (.if_icmp .ge 7, 3) := by decide +kernel
theorem d_Model_next_204 : decode b_Model_next 204 = .ok (.iload_n 2, 1) := by decide +kernel
theorem d_Model_next_205 : decode b_Model_next 205 = .ok (.goto 6, 3) := by decide +kernel
theorem d_Model_next_208 : decode b_Model_next 208 = .ok (.iload_n 2, 1) := by decide +kernel
theorem d_Model_next_209 : decode b_Model_next 209 = .ok (.iconst 3, 1) := by decide +kernel
theorem d_Model_next_210 : decode b_Model_next 210 = .ok (.isub, 1) := by decide +kernel
theorem d_Model_next_211 : decode b_Model_next 211 = .ok (.putfield 108, 3) := by decide +kernel
theorem d_Model_next_214 : decode b_Model_next 214 = .ok (.goto 189, 3) := by decide +kernel
theorem d_Model_next_217 : decode b_Model_next 217 = .ok (.iload_n 1, 1) := by decide +kernel
theorem d_Model_next_218 : decode b_Model_next 218 = .ok (.bipush 48, 2) := by decide +kernel
theorem d_Model_next_220 : decode b_Model_next 220 = .ok (.bipush 57, 2) := by decide +kernel
theorem d_Model_next_222 : decode b_Model_next 222 = .ok (.invokestatic 78, 3) := by decide +kernel
theorem d_Model_next_225 : decode b_Model_next 225 = .ok (.ifCond .eq 101, 3) := by decide +kernel
theorem d_Model_next_228 : decode b_Model_next 228 = .ok (.iconst 0, 1) := by decide +kernel
theorem d_Model_next_229 : decode b_Model_next 229 = .ok (.istore_n 2, 1) := by decide +kernel
theorem d_Model_next_230 : decode b_Model_next 230 = .ok (.aload_n 0, 1) := by decide +kernel
theorem d_Model_next_231 : decode b_Model_next 231 = .ok (.getfield 99, 3) := by decide +kernel
theorem d_Model_next_234 : decode b_Model_next 234 = .ok (.aload_n 0, 1) := by decide +kernel
theorem d_Model_next_235 : decode b_Model_next 235 = .ok (.getfield 67, 3) := by decide +kernel
theorem d_Model_next_238 : decode b_Model_next 238 = .ok (.if_icmp .ge 71, 3) := by decide +kernel
theorem d_Model_next_241 : decode b_Model_next 241 = .ok (.aload_n 0, 1) := by decide +kernel
theorem d_Model_next_242 : decode b_Model_next 242 = .ok (.getfield 25, 3) := by decide +kernel
theorem d_Model_next_245 : decode b_Model_next 245 = .ok (.aload_n 0, 1) := by decide +kernel
theorem d_Model_next_246 : decode b_Model_next 246 = .ok (.getfield 99, 3) := by decide +kernel
theorem d_Model_next_249 : decode b_Model_next 249 = .ok (.iaload, 1) := by decide +kernel
theorem d_Model_next_250 : decode b_Model_next 250 = .ok (.bipush 48, 2) := by decide +kernel
theorem d_Model_next_252 : decode b_Model_next 252 = .ok (.bipush 57, 2) := by decide +kernel
theorem d_Model_next_254 : decode b_Model_next 254 = .ok (.invokestatic 78, 3) := by decide +kernel
theorem d_Model_next_257 : decode b_Model_next 257 = .ok (.ifCond .eq 52, 3) := by decide +kernel
theorem d_Model_next_260 : decode b_Model_next 260 = .ok (.aload_n 0, 1) := by decide +kernel
theorem d_Model_next_261 : decode b_Model_next 261 = .ok (.iload_n 2, 1) := by decide +kernel
theorem d_Model_next_262 : decode b_Model_next 262 = .ok (.iconst 4, 1) := by decide +kernel
theorem d_Model_next_263 : decode b_Model_next 263 = .ok (.if_icmp .ge 26, 3) := by decide +kernel
theorem d_Model_next_266 : decode b_Model_next 266 = .ok (.bipush 10, 2) := by decide +kernel
theorem d_Model_next_268 : decode b_Model_next 268 = .ok (.aload_n 0, 1) := by decide +kernel
theorem d_Model_next_269 : decode b_Model_next 269 = .ok (.getfield 108, 3) := by decide +kernel
theorem d_Model_next_272 : decode b_Model_next 272 = .ok (.imul, 1) := by decide +kernel
theorem d_Model_next_273 : decode b_Model_next 273 = .ok (.aload_n 0, 1) := by decide +kernel
theorem d_Model_next_274 : decode b_Model_next 274 = .ok (.getfield 25, 3) := by decide +kernel
theorem d_Model_next_277 : decode b_Model_next 277 = .ok (.aload_n 0, 1) := by decide +kernel
theorem d_Model_next_278 : decode b_Model_next 278 = .ok (.getfield 99, 3) := by decide +kernel
theorem d_Model_next_281 : decode b_Model_next 281 = .ok (.iaload, 1) := by decide +kernel
theorem d_Model_next_282 : decode b_Model_next 282 = .ok (.iadd, 1) := by decide +kernel
theorem d_Model_next_283 : decode b_Model_next 283 = .ok (.bipush 48, 2) := by decide +kernel
theorem d_Model_next_285 : decode b_Model_next 285 = .ok (.isub, 1) := by decide +kernel
theorem d_Model_next_286 : decode b_Model_next 286 = .ok (.goto 4, 3) := by decide +kernel
theorem d_Model_next_289 : decode b_Model_next 289 = .ok (.iconst 0, 1) := by decide +kernel
theorem d_Model_next_290 : decode b_Model_next 290 = .ok (.putfield 108, 3) := by decide +kernel
theorem d_Model_next_293 : decode b_Model_next 293 = .ok (.iinc 2 1, 3) := by decide +kernel
theorem d_Model_next_296 : decode b_Model_next 296 = .ok (.aload_n 0, 1) := by decide +kernel
theorem d_Model_next_297 : decode b_Model_next 297 = .ok (.dup, 1) := by decide +kernel
theorem d_Model_next_298 : decode b_Model_next 298 = .ok (.getfield 99, 3) := by decide +kernel
theorem d_Model_next_301 : decode b_Model_next 301 = .ok (.iconst 1, 1) := by decide +kernel
theorem d_Model_next_302 : decode b_Model_next 302 = .ok (.iadd, 1) := by decide +kernel
theorem d_Model_next_303 : decode b_Model_next 303 = .ok (.putfield 99, 3) := by decide +kernel
theorem d_Model_next_306 : decode b_Model_next 306 = .ok (.goto (-76), 3) := by decide +kernel
theorem d_Model_next_309 : decode b_Model_next 309 = .ok (.aload_n 0, 1) := by decide +kernel
theorem d_Model_next_310 : decode b_Model_next 310 = .ok (.iload_n 2, 1) := by decide +kernel
theorem d_Model_next_311 : decode b_Model_next 311 = .ok (.iconst 4, 1) := by decide +kernel
theorem d_Model_next_312 : decode b_Model_next 312 = .ok (.if_icmp .le 7, 3) := by decide +kernel
theorem d_Model_next_315 : decode b_Model_next 315 = .ok (.iconst (-1), 1) := by decide +kernel
theorem d_Model_next_316 : decode b_Model_next 316 = .ok (.goto 4, 3) := by decide +kernel
theorem d_Model_next_319 : decode b_Model_next 319 = .ok (.iconst 1, 1) := by decide +kernel
theorem d_Model_next_320 : decode b_Model_next 320 = .ok (.putfield 105, 3) := by decide +kernel
theorem d_Model_next_323 : decode b_Model_next 323 = .ok (.goto 80, 3) := by decide +kernel
theorem d_Model_next_326 : decode b_Model_next 326 = .ok (.iload_n 1, 1) := by decide +kernel
theorem d_Model_next_327 : decode b_Model_next 327 = .ok (.bipush 40, 2) := by decide +kernel
theorem d_Model_next_329 : decode b_Model_next 329 = .ok (.if_icmp .eq 45, 3) := by decide +kernel
theorem d_Model_next_332 : decode b_Model_next 332 = .ok (.iload_n 1, 1) := by decide +kernel
theorem d_Model_next_333 : decode b_Model_next 333 = .ok (.bipush 41, 2) := by decide +kernel
theorem d_Model_next_335 : decode b_Model_next 335 = .ok (.if_icmp .eq 39, 3) := by decide +kernel
theorem d_Model_next_338 : decode b_Model_next 338 = .ok (.iload_n 1, 1) := by decide +kernel
theorem d_Model_next_339 : decode b_Model_next 339 = .ok (.bipush 59, 2) := by decide +kernel
theorem d_Model_next_341 : decode b_Model_next 341 = .ok (.if_icmp .eq 33, 3) := by decide +kernel
theorem d_Model_next_344 : decode b_Model_next 344 = .ok (.iload_n 1, 1) := by decide +kernel
theorem d_Model_next_345 : decode b_Model_next 345 = .ok (.bipush 43, 2) := by decide +kernel
theorem d_Model_next_347 : decode b_Model_next 347 = .ok (.if_icmp .eq 27, 3) := by decide +kernel
theorem d_Model_next_350 : decode b_Model_next 350 = .ok (.iload_n 1, 1) := by decide +kernel
theorem d_Model_next_351 : decode b_Model_next 351 = .ok (.bipush 45, 2) := by decide +kernel
theorem d_Model_next_353 : decode b_Model_next 353 = .ok (.if_icmp .eq 21, 3) := by decide +kernel
theorem d_Model_next_356 : decode b_Model_next 356 = .ok (.iload_n 1, 1) := by decide +kernel
theorem d_Model_next_357 : decode b_Model_next 357 = .ok (.bipush 42, 2) := by decide +kernel
theorem d_Model_next_359 : decode b_Model_next 359 = .ok (.if_icmp .eq 15, 3) := by decide +kernel
theorem d_Model_next_362 : decode b_Model_next 362 = .ok (.iload_n 1, 1) := by decide +kernel
theorem d_Model_next_363 : decode b_Model_next 363 = .ok (.bipush 60, 2) := by decide +kernel
theorem d_Model_next_365 : decode b_Model_next 365 = .ok (.if_icmp .eq 9, 3) := by decide +kernel
theorem d_Model_next_368 : decode b_Model_next 368 = .ok (.iload_n 1, 1) := by decide +kernel
theorem d_Model_next_369 : decode b_Model_next 369 = .ok (.bipush 61, 2) := by decide +kernel
theorem d_Model_next_371 : decode b_Model_next 371 = .ok (.if_icmp .ne 7, 3) := by decide +kernel
theorem d_Model_next_374 : decode b_Model_next 374 = .ok (.iconst 1, 1) := by decide +kernel
theorem d_Model_next_375 : decode b_Model_next 375 = .ok (.goto 4, 3) := by decide +kernel
theorem d_Model_next_378 : decode b_Model_next 378 = .ok (.iconst 0, 1) := by decide +kernel
theorem d_Model_next_379 : decode b_Model_next 379 = .ok (.istore_n 2, 1) := by decide +kernel
theorem d_Model_next_380 : decode b_Model_next 380 = .ok (.aload_n 0, 1) := by decide +kernel
theorem d_Model_next_381 : decode b_Model_next 381 = .ok (.iload_n 2, 1) := by decide +kernel
theorem d_Model_next_382 : decode b_Model_next 382 = .ok (.ifCond .eq 7, 3) := by decide +kernel
theorem d_Model_next_385 : decode b_Model_next 385 = .ok (.iload_n 1, 1) := by decide +kernel
theorem d_Model_next_386 : decode b_Model_next 386 = .ok (.goto 4, 3) := by decide +kernel
theorem d_Model_next_389 : decode b_Model_next 389 = .ok (.iconst (-1), 1) := by decide +kernel
theorem d_Model_next_390 : decode b_Model_next 390 = .ok (.putfield 105, 3) := by decide +kernel
theorem d_Model_next_393 : decode b_Model_next 393 = .ok (.aload_n 0, 1) := by decide +kernel
theorem d_Model_next_394 : decode b_Model_next 394 = .ok (.dup, 1) := by decide +kernel
theorem d_Model_next_395 : decode b_Model_next 395 = .ok (.getfield 99, 3) := by decide +kernel
theorem d_Model_next_398 : decode b_Model_next 398 = .ok (.iconst 1, 1) := by decide +kernel
theorem d_Model_next_399 : decode b_Model_next 399 = .ok (.iadd, 1) := by decide +kernel
theorem d_Model_next_400 : decode b_Model_next 400 = .ok (.putfield 99, 3) := by decide +kernel
theorem d_Model_next_403 : decode b_Model_next 403 = .ok (.return_, 1) := by decide +kernel
section S_Model_next
variable {p : Program} {l : Launch} {e : Env} {s : State} {m : MethodId} {args : Array Value} {below : List Frame} {meth : Method} {c : Code} {D : va_G} {cA : Nat → ClassId} {ad : Nat → Nat} {nC : Nat} {A : Nat → Prop} {τ : St}
noncomputable def F_Model_next_390 (s0 : St) (t1 : Int32) : Option St := (lt (up1 s0 0 23 t1) (fun s_11 => (lt (up1 s_11 0 21 ((s_11.1 0 21) + (1 : Int32))) (fun s_12 => (some s_12)))))
set_option maxHeartbeats 4000000 in
set_option maxRecDepth 100000 in
theorem q_Model_next_390 (K : Fx p s m args meth c b_Model_next 3 R_Model none)  : ∀ (H : Heap) (locs : List Loc) (ls : Array Slot) (s0 : St) (t1 : Int32), Wh D cA ad shM A s s0 H locs → lv_has ls 3 [(0, .ref (ad 0))] → F_Model_next_390 s0 t1 = (some τ) → W p l e rm_Model_next s m args below meth c H locs 0 0 (MQ below (QcV D cA ad shM A τ) args s 0 0 A) (F0 m 390 ls [.int t1, .ref (ad 0)]) := by
  have hx := K.1.1; have hb := K.1.2.1
  intro H locs ls s0 t1 hw hl hF
  unfold F_Model_next_390 at hF
  refine r_putI K hw i_Model t_Model t_Model_ok n_Model sh_Model rfl 23 (by decide) w_1048 rfl rfl rfl rfl rfl d_Model_next_390 (fun s_11 f_s_11 H locs hw => ?_)
  replace hF := ltN hF f_s_11
  refine lv_aload_n hx hb d_Model_next_393 rfl (lv_at hl 0 rfl) ?_
  refine lv_dup hx hb d_Model_next_394 rfl ?_
  refine r_get (v := .int (s_11.1 0 21)) K hw i_Model sh_Model rfl 21 (by decide) w_1046 rfl rfl rfl d_Model_next_395 ?_
  refine lv_iconst (v := 1) hx hb d_Model_next_398 (by decide) ?_
  refine lv_iadd hx hb d_Model_next_399 ?_
  refine r_putI K hw i_Model t_Model t_Model_ok n_Model sh_Model rfl 21 (by decide) w_1046 rfl rfl rfl rfl rfl d_Model_next_400 (fun s_12 f_s_12 H locs hw => ?_)
  replace hF := ltN hF f_s_12
  replace hF := sE1 hF
  subst hF
  exact r_vret K hw d_Model_next_403
noncomputable def F_Model_next_379 (s0 : St) (v1 : Int32) (t0 : Int32) : Option St := (if t0 = 0 then (F_Model_next_390 s0 (-1 : Int32)) else (F_Model_next_390 s0 v1))
set_option maxHeartbeats 4000000 in
set_option maxRecDepth 100000 in
theorem q_Model_next_379 (K : Fx p s m args meth c b_Model_next 3 R_Model none)  : ∀ (H : Heap) (locs : List Loc) (ls : Array Slot) (s0 : St) (v1 : Int32) (t0 : Int32), Wh D cA ad shM A s s0 H locs → lv_has ls 3 [(0, .ref (ad 0)), (1, .int v1)] → F_Model_next_379 s0 v1 t0 = (some τ) → W p l e rm_Model_next s m args below meth c H locs 0 0 (MQ below (QcV D cA ad shM A τ) args s 0 0 A) (F0 m 379 ls [.int t0]) := by
  have hx := K.1.1; have hb := K.1.2.1
  intro H locs ls s0 v1 t0 hw hl hF
  unfold F_Model_next_379 at hF
  refine lv_istore_n (lv' := [(2, .int t0), (0, .ref (ad 0)), (1, .int v1)]) hx hb d_Model_next_379 rfl hl (by decide) rfl (fun ls hl => ?_)
  refine lv_aload_n hx hb d_Model_next_380 rfl (lv_at hl 1 rfl) ?_
  refine lv_iload_n hx hb d_Model_next_381 rfl (lv_at hl 0 rfl) ?_
  refine lv_if_eq (tgt := 389) hx hb d_Model_next_382 (by decide) (fun c_10 => ?_) (fun c_10 => ?_)
  · replace hF := ifT hF c_10
    refine lv_iconst (v := -1) hx hb d_Model_next_389 (by decide) ?_
    exact q_Model_next_390 K _ _ _ _ _  hw (lv_sub hl [1] rfl) hF
  · replace hF := ifF hF c_10
    refine lv_iload_n hx hb d_Model_next_385 rfl (lv_at hl 2 rfl) ?_
    refine lv_goto (tgt := 390) hx hb d_Model_next_386 (by decide) ?_
    exact q_Model_next_390 K _ _ _ _ _  hw (lv_sub hl [1] rfl) hF
noncomputable def F_Model_next_374 (s0 : St) (v1 : Int32) : Option St := (F_Model_next_379 s0 v1 (1 : Int32))
set_option maxHeartbeats 4000000 in
set_option maxRecDepth 100000 in
theorem q_Model_next_374 (K : Fx p s m args meth c b_Model_next 3 R_Model none)  : ∀ (H : Heap) (locs : List Loc) (ls : Array Slot) (s0 : St) (v1 : Int32), Wh D cA ad shM A s s0 H locs → lv_has ls 3 [(0, .ref (ad 0)), (1, .int v1)] → F_Model_next_374 s0 v1 = (some τ) → W p l e rm_Model_next s m args below meth c H locs 0 0 (MQ below (QcV D cA ad shM A τ) args s 0 0 A) (F0 m 374 ls []) := by
  have hx := K.1.1; have hb := K.1.2.1
  intro H locs ls s0 v1 hw hl hF
  unfold F_Model_next_374 at hF
  refine lv_iconst (v := 1) hx hb d_Model_next_374 (by decide) ?_
  refine lv_goto (tgt := 379) hx hb d_Model_next_375 (by decide) ?_
  exact q_Model_next_379 K _ _ _ _ _ _  hw (lv_sub hl [0, 1] rfl) hF
noncomputable def F_Model_next_320 (s0 : St) (t1 : Int32) : Option St := (lt (up1 s0 0 23 t1) (fun s_22 => (some s_22)))
set_option maxHeartbeats 4000000 in
set_option maxRecDepth 100000 in
theorem q_Model_next_320 (K : Fx p s m args meth c b_Model_next 3 R_Model none)  : ∀ (H : Heap) (locs : List Loc) (ls : Array Slot) (s0 : St) (t1 : Int32), Wh D cA ad shM A s s0 H locs → lv_has ls 3 [] → F_Model_next_320 s0 t1 = (some τ) → W p l e rm_Model_next s m args below meth c H locs 0 0 (MQ below (QcV D cA ad shM A τ) args s 0 0 A) (F0 m 320 ls [.int t1, .ref (ad 0)]) := by
  have hx := K.1.1; have hb := K.1.2.1
  intro H locs ls s0 t1 hw hl hF
  unfold F_Model_next_320 at hF
  refine r_putI K hw i_Model t_Model t_Model_ok n_Model sh_Model rfl 23 (by decide) w_1048 rfl rfl rfl rfl rfl d_Model_next_320 (fun s_22 f_s_22 H locs hw => ?_)
  replace hF := ltN hF f_s_22
  refine lv_goto (tgt := 403) hx hb d_Model_next_323 (by decide) ?_
  replace hF := sE1 hF
  subst hF
  exact r_vret K hw d_Model_next_403
noncomputable def F_Model_next_309 (s0 : St) (v2 : Int32) : Option St := (if v2 ≤ (4 : Int32) then (F_Model_next_320 s0 (1 : Int32)) else (F_Model_next_320 s0 (-1 : Int32)))
set_option maxHeartbeats 4000000 in
set_option maxRecDepth 100000 in
theorem q_Model_next_309 (K : Fx p s m args meth c b_Model_next 3 R_Model none)  : ∀ (H : Heap) (locs : List Loc) (ls : Array Slot) (s0 : St) (v2 : Int32), Wh D cA ad shM A s s0 H locs → lv_has ls 3 [(0, .ref (ad 0)), (2, .int v2)] → F_Model_next_309 s0 v2 = (some τ) → W p l e rm_Model_next s m args below meth c H locs 0 0 (MQ below (QcV D cA ad shM A τ) args s 0 0 A) (F0 m 309 ls []) := by
  have hx := K.1.1; have hb := K.1.2.1
  intro H locs ls s0 v2 hw hl hF
  unfold F_Model_next_309 at hF
  refine lv_aload_n hx hb d_Model_next_309 rfl (lv_at hl 0 rfl) ?_
  refine lv_iload_n hx hb d_Model_next_310 rfl (lv_at hl 1 rfl) ?_
  refine lv_iconst (v := 4) hx hb d_Model_next_311 (by decide) ?_
  refine lv_icmp_le (tgt := 319) hx hb d_Model_next_312 (by decide) (fun c_21 => ?_) (fun c_21 => ?_)
  · replace hF := ifT hF c_21
    refine lv_iconst (v := 1) hx hb d_Model_next_319 (by decide) ?_
    exact q_Model_next_320 K _ _ _ _ _  hw (lv_sub hl [] rfl) hF
  · replace hF := ifF hF c_21
    refine lv_iconst (v := -1) hx hb d_Model_next_315 (by decide) ?_
    refine lv_goto (tgt := 320) hx hb d_Model_next_316 (by decide) ?_
    exact q_Model_next_320 K _ _ _ _ _  hw (lv_sub hl [] rfl) hF
noncomputable def F_Model_next_290 (k121 : (St → Int32 → Option St)) (s0 : St) (v2 : Int32) (t1 : Int32) : Option St := (lt (up1 s0 0 24 t1) (fun s_26 => (lt (up1 s_26 0 21 ((s_26.1 0 21) + (1 : Int32))) (fun s_27 => (k121 s_27 (v2 + 1))))))
set_option maxHeartbeats 4000000 in
set_option maxRecDepth 100000 in
theorem q_Model_next_290 (K : Fx p s m args meth c b_Model_next 3 R_Model none) (k121 : (St → Int32 → Option St)) (hk121 : ∀ (H : Heap) (locs : List Loc) (ls : Array Slot) (s0 : St) (v2 : Int32), Wh D cA ad shM A s s0 H locs → lv_has ls 3 [(0, .ref (ad 0)), (2, .int v2)] → k121 s0 v2 = (some τ) → W p l e rm_Model_next s m args below meth c H locs 0 0 (MQ below (QcV D cA ad shM A τ) args s 0 0 A) (F0 m 230 ls [])) : ∀ (H : Heap) (locs : List Loc) (ls : Array Slot) (s0 : St) (v2 : Int32) (t1 : Int32), Wh D cA ad shM A s s0 H locs → lv_has ls 3 [(0, .ref (ad 0)), (2, .int v2)] → F_Model_next_290 k121 s0 v2 t1 = (some τ) → W p l e rm_Model_next s m args below meth c H locs 0 0 (MQ below (QcV D cA ad shM A τ) args s 0 0 A) (F0 m 290 ls [.int t1, .ref (ad 0)]) := by
  have hx := K.1.1; have hb := K.1.2.1
  intro H locs ls s0 v2 t1 hw hl hF
  unfold F_Model_next_290 at hF
  refine r_putI K hw i_Model t_Model t_Model_ok n_Model sh_Model rfl 24 (by decide) w_1049 rfl rfl rfl rfl rfl d_Model_next_290 (fun s_26 f_s_26 H locs hw => ?_)
  replace hF := ltN hF f_s_26
  refine lv_iinc (v := (v2 + 1)) (lv' := [(2, .int (v2 + 1)), (0, .ref (ad 0))]) hx hb d_Model_next_293 hl (k := 1) rfl rfl (by decide) rfl (fun ls hl => ?_)
  refine lv_aload_n hx hb d_Model_next_296 rfl (lv_at hl 1 rfl) ?_
  refine lv_dup hx hb d_Model_next_297 rfl ?_
  refine r_get (v := .int (s_26.1 0 21)) K hw i_Model sh_Model rfl 21 (by decide) w_1046 rfl rfl rfl d_Model_next_298 ?_
  refine lv_iconst (v := 1) hx hb d_Model_next_301 (by decide) ?_
  refine lv_iadd hx hb d_Model_next_302 ?_
  refine r_putI K hw i_Model t_Model t_Model_ok n_Model sh_Model rfl 21 (by decide) w_1046 rfl rfl rfl rfl rfl d_Model_next_303 (fun s_27 f_s_27 H locs hw => ?_)
  replace hF := ltN hF f_s_27
  refine lv_goto (tgt := 230) hx hb d_Model_next_306 (by decide) ?_
  exact hk121 _ _ _ _ _  hw (lv_sub hl [1, 0] rfl) hF
noncomputable def F_Model_next_230 : Nat → St → Int32 → Option St
  | 0, _, _ => none
  | n + 1, s0, v2 => (if (s0.1 0 7) ≤ (s0.1 0 21) then (F_Model_next_309 s0 v2) else (if inB (s0.1 0 21) 160 = true then (if (F_Model_in (s0.1 6 (s0.1 0 21).toNatClampNeg) (48 : Int32) (57 : Int32)) = 0 then (F_Model_next_309 s0 v2) else (if (4 : Int32) ≤ v2 then (F_Model_next_290 (fun z0 zv2 => F_Model_next_230 n z0 zv2) s0 v2 (0 : Int32)) else (if inB (s0.1 0 21) 160 = true then (F_Model_next_290 (fun z0 zv2 => F_Model_next_230 n z0 zv2) s0 v2 ((((10 : Int32) * (s0.1 0 24)) + (s0.1 6 (s0.1 0 21).toNatClampNeg)) - (48 : Int32))) else none))) else none))
set_option maxHeartbeats 4000000 in
set_option maxRecDepth 100000 in
theorem q_Model_next_230 (K : Fx p s m args meth c b_Model_next 3 R_Model none)  : ∀ (n : Nat), ∀ (H : Heap) (locs : List Loc) (ls : Array Slot) (s0 : St) (v2 : Int32), Wh D cA ad shM A s s0 H locs → lv_has ls 3 [(0, .ref (ad 0)), (2, .int v2)] → F_Model_next_230 n s0 v2 = (some τ) → W p l e rm_Model_next s m args below meth c H locs 0 0 (MQ below (QcV D cA ad shM A τ) args s 0 0 A) (F0 m 230 ls []) := by
  have hx := K.1.1; have hb := K.1.2.1
  intro n
  induction n with
  | zero =>
    intro H locs ls s0 v2 hw hl hF
    exact absurd hF (by rw [F_Model_next_230]; exact nofun)
  | succ n ih =>
    intro H locs ls s0 v2 hw hl hF
    rw [F_Model_next_230] at hF
    refine lv_aload_n hx hb d_Model_next_230 rfl (lv_at hl 0 rfl) ?_
    refine r_get (v := .int (s0.1 0 21)) K hw i_Model sh_Model rfl 21 (by decide) w_1046 rfl rfl rfl d_Model_next_231 ?_
    refine lv_aload_n hx hb d_Model_next_234 rfl (lv_at hl 0 rfl) ?_
    refine r_get (v := .int (s0.1 0 7)) K hw i_Model sh_Model rfl 7 (by decide) w_1032 rfl rfl rfl d_Model_next_235 ?_
    refine lv_icmp_ge (tgt := 309) hx hb d_Model_next_238 (by decide) (fun c_20 => ?_) (fun c_20 => ?_)
    · replace hF := ifT hF c_20
      exact q_Model_next_309 K _ _ _ _ _  hw (lv_sub hl [0, 1] rfl) hF
    · replace hF := ifF hF c_20
      refine lv_aload_n hx hb d_Model_next_241 rfl (lv_at hl 0 rfl) ?_
      refine r_get (v := .ref (ad 6)) K hw i_Model sh_Model rfl 6 (by decide) w_1031 rfl rfl rfl d_Model_next_242 ?_
      refine lv_aload_n hx hb d_Model_next_245 rfl (lv_at hl 0 rfl) ?_
      refine r_get (v := .int (s0.1 0 21)) K hw i_Model sh_Model rfl 21 (by decide) w_1046 rfl rfl rfl d_Model_next_246 ?_
      obtain ⟨g_23, hF⟩ := ifG hF
      refine r_iald (k := (s0.1 0 21).toNatClampNeg) K hw (show shM[6]? = some (.inr (.inl 160)) from rfl) rfl (inB_vp g_23) d_Model_next_249 ?_
      refine lv_bipush (v := 48) hx hb d_Model_next_250 (by decide) ?_
      refine lv_bipush (v := 57) hx hb d_Model_next_252 (by decide) ?_
      refine r_callSI (As := [.int (s0.1 6 (s0.1 0 21).toNatClampNeg), .int (48 : Int32), .int (57 : Int32)]) (rest := []) K hw hl.1 (c_Model_in (l := l) (D := D) (cA := cA) (ad := ad) (s0 := s0)   rfl) (tb_gS w_986 w_987 w_80 w_988) a_Model_in ⟨rfl, rfl, Nat.le_of_ble_eq_true rfl, Nat.le_of_ble_eq_true rfl⟩ rfl rfl (Nat.le_of_ble_eq_true rfl) d_Model_next_254 (fun H locs hw => ?_)
      refine lv_if_eq (tgt := 309) hx hb d_Model_next_257 (by decide) (fun c_24 => ?_) (fun c_24 => ?_)
      · replace hF := ifT hF c_24
        exact q_Model_next_309 K _ _ _ _ _  hw (lv_sub hl [0, 1] rfl) hF
      · replace hF := ifF hF c_24
        refine lv_aload_n hx hb d_Model_next_260 rfl (lv_at hl 0 rfl) ?_
        refine lv_iload_n hx hb d_Model_next_261 rfl (lv_at hl 1 rfl) ?_
        refine lv_iconst (v := 4) hx hb d_Model_next_262 (by decide) ?_
        refine lv_icmp_ge (tgt := 289) hx hb d_Model_next_263 (by decide) (fun c_25 => ?_) (fun c_25 => ?_)
        · replace hF := ifT hF c_25
          refine lv_iconst (v := 0) hx hb d_Model_next_289 (by decide) ?_
          exact q_Model_next_290 K (fun z0 zv2 => F_Model_next_230 n z0 zv2) ih _ _ _ _ _ _  hw (lv_sub hl [0, 1] rfl) hF
        · replace hF := ifF hF c_25
          refine lv_bipush (v := 10) hx hb d_Model_next_266 (by decide) ?_
          refine lv_aload_n hx hb d_Model_next_268 rfl (lv_at hl 0 rfl) ?_
          refine r_get (v := .int (s0.1 0 24)) K hw i_Model sh_Model rfl 24 (by decide) w_1049 rfl rfl rfl d_Model_next_269 ?_
          refine lv_imul hx hb d_Model_next_272 ?_
          refine lv_aload_n hx hb d_Model_next_273 rfl (lv_at hl 0 rfl) ?_
          refine r_get (v := .ref (ad 6)) K hw i_Model sh_Model rfl 6 (by decide) w_1031 rfl rfl rfl d_Model_next_274 ?_
          refine lv_aload_n hx hb d_Model_next_277 rfl (lv_at hl 0 rfl) ?_
          refine r_get (v := .int (s0.1 0 21)) K hw i_Model sh_Model rfl 21 (by decide) w_1046 rfl rfl rfl d_Model_next_278 ?_
          obtain ⟨g_28, hF⟩ := ifG hF
          refine r_iald (k := (s0.1 0 21).toNatClampNeg) K hw (show shM[6]? = some (.inr (.inl 160)) from rfl) rfl (inB_vp g_28) d_Model_next_281 ?_
          refine lv_iadd hx hb d_Model_next_282 ?_
          refine lv_bipush (v := 48) hx hb d_Model_next_283 (by decide) ?_
          refine lv_isub hx hb d_Model_next_285 ?_
          refine lv_goto (tgt := 290) hx hb d_Model_next_286 (by decide) ?_
          exact q_Model_next_290 K (fun z0 zv2 => F_Model_next_230 n z0 zv2) ih _ _ _ _ _ _  hw (lv_sub hl [0, 1] rfl) hF
noncomputable def F_Model_next_211 (s0 : St) (t1 : Int32) : Option St := (lt (up1 s0 0 24 t1) (fun s_36 => (some s_36)))
set_option maxHeartbeats 4000000 in
set_option maxRecDepth 100000 in
theorem q_Model_next_211 (K : Fx p s m args meth c b_Model_next 3 R_Model none)  : ∀ (H : Heap) (locs : List Loc) (ls : Array Slot) (s0 : St) (t1 : Int32), Wh D cA ad shM A s s0 H locs → lv_has ls 3 [] → F_Model_next_211 s0 t1 = (some τ) → W p l e rm_Model_next s m args below meth c H locs 0 0 (MQ below (QcV D cA ad shM A τ) args s 0 0 A) (F0 m 211 ls [.int t1, .ref (ad 0)]) := by
  have hx := K.1.1; have hb := K.1.2.1
  intro H locs ls s0 t1 hw hl hF
  unfold F_Model_next_211 at hF
  refine r_putI K hw i_Model t_Model t_Model_ok n_Model sh_Model rfl 24 (by decide) w_1049 rfl rfl rfl rfl rfl d_Model_next_211 (fun s_36 f_s_36 H locs hw => ?_)
  replace hF := ltN hF f_s_36
  refine lv_goto (tgt := 403) hx hb d_Model_next_214 (by decide) ?_
  replace hF := sE1 hF
  subst hF
  exact r_vret K hw d_Model_next_403
noncomputable def F_Model_next_195 (s0 : St) (v2 : Int32) (t1 : Int32) : Option St := (lt (up1 s0 0 23 t1) (fun s_34 => (if (3 : Int32) ≤ v2 then (F_Model_next_211 s_34 (v2 - (3 : Int32))) else (F_Model_next_211 s_34 v2))))
set_option maxHeartbeats 4000000 in
set_option maxRecDepth 100000 in
theorem q_Model_next_195 (K : Fx p s m args meth c b_Model_next 3 R_Model none)  : ∀ (H : Heap) (locs : List Loc) (ls : Array Slot) (s0 : St) (v2 : Int32) (t1 : Int32), Wh D cA ad shM A s s0 H locs → lv_has ls 3 [(0, .ref (ad 0)), (2, .int v2)] → F_Model_next_195 s0 v2 t1 = (some τ) → W p l e rm_Model_next s m args below meth c H locs 0 0 (MQ below (QcV D cA ad shM A τ) args s 0 0 A) (F0 m 195 ls [.int t1, .ref (ad 0)]) := by
  have hx := K.1.1; have hb := K.1.2.1
  intro H locs ls s0 v2 t1 hw hl hF
  unfold F_Model_next_195 at hF
  refine r_putI K hw i_Model t_Model t_Model_ok n_Model sh_Model rfl 23 (by decide) w_1048 rfl rfl rfl rfl rfl d_Model_next_195 (fun s_34 f_s_34 H locs hw => ?_)
  replace hF := ltN hF f_s_34
  refine lv_aload_n hx hb d_Model_next_198 rfl (lv_at hl 0 rfl) ?_
  refine lv_iload_n hx hb d_Model_next_199 rfl (lv_at hl 1 rfl) ?_
  refine lv_iconst (v := 3) hx hb d_Model_next_200 (by decide) ?_
  refine lv_icmp_ge (tgt := 208) hx hb d_Model_next_201 (by decide) (fun c_35 => ?_) (fun c_35 => ?_)
  · replace hF := ifT hF c_35
    refine lv_iload_n hx hb d_Model_next_208 rfl (lv_at hl 1 rfl) ?_
    refine lv_iconst (v := 3) hx hb d_Model_next_209 (by decide) ?_
    refine lv_isub hx hb d_Model_next_210 ?_
    exact q_Model_next_211 K _ _ _ _ _  hw (lv_sub hl [] rfl) hF
  · replace hF := ifF hF c_35
    refine lv_iload_n hx hb d_Model_next_204 rfl (lv_at hl 1 rfl) ?_
    refine lv_goto (tgt := 211) hx hb d_Model_next_205 (by decide) ?_
    exact q_Model_next_211 K _ _ _ _ _  hw (lv_sub hl [] rfl) hF
noncomputable def F_Model_next_146 (s0 : St) : Option St := (ob1 (F_Model_wordFrom s0 (s0.1 0 22) (s0.1 0 21)) (fun r_30 => (if (3 : Int32) ≤ r_30 then (if (9 : Int32) ≤ r_30 then (if ¬ r_30 = (12 : Int32) then (F_Model_next_195 s0 r_30 (((4 : Int32) + r_30) - (9 : Int32))) else (F_Model_next_195 s0 r_30 (-1 : Int32))) else (F_Model_next_195 s0 r_30 (2 : Int32))) else (F_Model_next_195 s0 r_30 (3 : Int32)))))
set_option maxHeartbeats 4000000 in
set_option maxRecDepth 100000 in
theorem q_Model_next_146 (K : Fx p s m args meth c b_Model_next 3 R_Model none)  : ∀ (H : Heap) (locs : List Loc) (ls : Array Slot) (s0 : St), Wh D cA ad shM A s s0 H locs → lv_has ls 3 [(0, .ref (ad 0))] → F_Model_next_146 s0 = (some τ) → W p l e rm_Model_next s m args below meth c H locs 0 0 (MQ below (QcV D cA ad shM A τ) args s 0 0 A) (F0 m 146 ls []) := by
  have hx := K.1.1; have hb := K.1.2.1
  intro H locs ls s0 hw hl hF
  unfold F_Model_next_146 at hF
  refine lv_aload_n hx hb d_Model_next_146 rfl (lv_at hl 0 rfl) ?_
  refine lv_aload_n hx hb d_Model_next_147 rfl (lv_at hl 0 rfl) ?_
  refine r_get (v := .int (s0.1 0 22)) K hw i_Model sh_Model rfl 22 (by decide) w_1047 rfl rfl rfl d_Model_next_148 ?_
  refine lv_aload_n hx hb d_Model_next_151 rfl (lv_at hl 0 rfl) ?_
  refine r_get (v := .int (s0.1 0 21)) K hw i_Model sh_Model rfl 21 (by decide) w_1046 rfl rfl rfl d_Model_next_152 ?_
  obtain ⟨r_30, h_r_30, hF⟩ := ob1E hF
  refine r_callVI (As := [.int (s0.1 0 22), .int (s0.1 0 21)]) (rest := []) K hw hl.1 (c_Model_wordFrom (l := l) (D := D) (cA := cA) (ad := ad) (s0 := s0)   h_r_30) sh_Model rfl (tb_gV w_989 w_991 w_31 w_80 w_992) a_Model_wordFrom ⟨rfl, rfl, Nat.le_of_ble_eq_true rfl, Nat.le_of_ble_eq_true rfl⟩ rfl rfl (Nat.le_of_ble_eq_true rfl) d_Model_next_155 (fun H locs hw => ?_)
  refine lv_istore_n (lv' := [(2, .int r_30), (0, .ref (ad 0))]) hx hb d_Model_next_158 rfl hl (by decide) rfl (fun ls hl => ?_)
  refine lv_aload_n hx hb d_Model_next_159 rfl (lv_at hl 1 rfl) ?_
  refine lv_iload_n hx hb d_Model_next_160 rfl (lv_at hl 0 rfl) ?_
  refine lv_iconst (v := 3) hx hb d_Model_next_161 (by decide) ?_
  refine lv_icmp_ge (tgt := 169) hx hb d_Model_next_162 (by decide) (fun c_31 => ?_) (fun c_31 => ?_)
  · replace hF := ifT hF c_31
    refine lv_iload_n hx hb d_Model_next_169 rfl (lv_at hl 0 rfl) ?_
    refine lv_bipush (v := 9) hx hb d_Model_next_170 (by decide) ?_
    refine lv_icmp_ge (tgt := 179) hx hb d_Model_next_172 (by decide) (fun c_32 => ?_) (fun c_32 => ?_)
    · replace hF := ifT hF c_32
      refine lv_iload_n hx hb d_Model_next_179 rfl (lv_at hl 0 rfl) ?_
      refine lv_bipush (v := 12) hx hb d_Model_next_180 (by decide) ?_
      refine lv_icmp_ne (tgt := 189) hx hb d_Model_next_182 (by decide) (fun c_33 => ?_) (fun c_33 => ?_)
      · replace hF := ifT hF c_33
        refine lv_iconst (v := 4) hx hb d_Model_next_189 (by decide) ?_
        refine lv_iload_n hx hb d_Model_next_190 rfl (lv_at hl 0 rfl) ?_
        refine lv_iadd hx hb d_Model_next_191 ?_
        refine lv_bipush (v := 9) hx hb d_Model_next_192 (by decide) ?_
        refine lv_isub hx hb d_Model_next_194 ?_
        exact q_Model_next_195 K _ _ _ _ _ _  hw (lv_sub hl [1, 0] rfl) hF
      · replace hF := ifN hF c_33
        refine lv_iconst (v := -1) hx hb d_Model_next_185 (by decide) ?_
        refine lv_goto (tgt := 195) hx hb d_Model_next_186 (by decide) ?_
        exact q_Model_next_195 K _ _ _ _ _ _  hw (lv_sub hl [1, 0] rfl) hF
    · replace hF := ifF hF c_32
      refine lv_iconst (v := 2) hx hb d_Model_next_175 (by decide) ?_
      refine lv_goto (tgt := 195) hx hb d_Model_next_176 (by decide) ?_
      exact q_Model_next_195 K _ _ _ _ _ _  hw (lv_sub hl [1, 0] rfl) hF
  · replace hF := ifF hF c_31
    refine lv_iconst (v := 3) hx hb d_Model_next_165 (by decide) ?_
    refine lv_goto (tgt := 195) hx hb d_Model_next_166 (by decide) ?_
    exact q_Model_next_195 K _ _ _ _ _ _  hw (lv_sub hl [1, 0] rfl) hF
noncomputable def F_Model_next_103 : Nat → St → Option St
  | 0, _ => none
  | n + 1, s0 => (if (s0.1 0 7) ≤ (s0.1 0 21) then (F_Model_next_146 s0) else (if inB (s0.1 0 21) 160 = true then (if (F_Model_in (s0.1 6 (s0.1 0 21).toNatClampNeg) (97 : Int32) (122 : Int32)) = 0 then (F_Model_next_146 s0) else (lt (up1 s0 0 21 ((s0.1 0 21) + (1 : Int32))) (fun s_39 => (F_Model_next_103 n s_39)))) else none))
set_option maxHeartbeats 4000000 in
set_option maxRecDepth 100000 in
theorem q_Model_next_103 (K : Fx p s m args meth c b_Model_next 3 R_Model none)  : ∀ (n : Nat), ∀ (H : Heap) (locs : List Loc) (ls : Array Slot) (s0 : St), Wh D cA ad shM A s s0 H locs → lv_has ls 3 [(0, .ref (ad 0))] → F_Model_next_103 n s0 = (some τ) → W p l e rm_Model_next s m args below meth c H locs 0 0 (MQ below (QcV D cA ad shM A τ) args s 0 0 A) (F0 m 103 ls []) := by
  have hx := K.1.1; have hb := K.1.2.1
  intro n
  induction n with
  | zero =>
    intro H locs ls s0 hw hl hF
    exact absurd hF (by rw [F_Model_next_103]; exact nofun)
  | succ n ih =>
    intro H locs ls s0 hw hl hF
    rw [F_Model_next_103] at hF
    refine lv_aload_n hx hb d_Model_next_103 rfl (lv_at hl 0 rfl) ?_
    refine r_get (v := .int (s0.1 0 21)) K hw i_Model sh_Model rfl 21 (by decide) w_1046 rfl rfl rfl d_Model_next_104 ?_
    refine lv_aload_n hx hb d_Model_next_107 rfl (lv_at hl 0 rfl) ?_
    refine r_get (v := .int (s0.1 0 7)) K hw i_Model sh_Model rfl 7 (by decide) w_1032 rfl rfl rfl d_Model_next_108 ?_
    refine lv_icmp_ge (tgt := 146) hx hb d_Model_next_111 (by decide) (fun c_29 => ?_) (fun c_29 => ?_)
    · replace hF := ifT hF c_29
      exact q_Model_next_146 K _ _ _ _  hw (lv_sub hl [0] rfl) hF
    · replace hF := ifF hF c_29
      refine lv_aload_n hx hb d_Model_next_114 rfl (lv_at hl 0 rfl) ?_
      refine r_get (v := .ref (ad 6)) K hw i_Model sh_Model rfl 6 (by decide) w_1031 rfl rfl rfl d_Model_next_115 ?_
      refine lv_aload_n hx hb d_Model_next_118 rfl (lv_at hl 0 rfl) ?_
      refine r_get (v := .int (s0.1 0 21)) K hw i_Model sh_Model rfl 21 (by decide) w_1046 rfl rfl rfl d_Model_next_119 ?_
      obtain ⟨g_37, hF⟩ := ifG hF
      refine r_iald (k := (s0.1 0 21).toNatClampNeg) K hw (show shM[6]? = some (.inr (.inl 160)) from rfl) rfl (inB_vp g_37) d_Model_next_122 ?_
      refine lv_bipush (v := 97) hx hb d_Model_next_123 (by decide) ?_
      refine lv_bipush (v := 122) hx hb d_Model_next_125 (by decide) ?_
      refine r_callSI (As := [.int (s0.1 6 (s0.1 0 21).toNatClampNeg), .int (97 : Int32), .int (122 : Int32)]) (rest := []) K hw hl.1 (c_Model_in (l := l) (D := D) (cA := cA) (ad := ad) (s0 := s0)   rfl) (tb_gS w_986 w_987 w_80 w_988) a_Model_in ⟨rfl, rfl, Nat.le_of_ble_eq_true rfl, Nat.le_of_ble_eq_true rfl⟩ rfl rfl (Nat.le_of_ble_eq_true rfl) d_Model_next_127 (fun H locs hw => ?_)
      refine lv_if_eq (tgt := 146) hx hb d_Model_next_130 (by decide) (fun c_38 => ?_) (fun c_38 => ?_)
      · replace hF := ifT hF c_38
        exact q_Model_next_146 K _ _ _ _  hw (lv_sub hl [0] rfl) hF
      · replace hF := ifF hF c_38
        refine lv_aload_n hx hb d_Model_next_133 rfl (lv_at hl 0 rfl) ?_
        refine lv_dup hx hb d_Model_next_134 rfl ?_
        refine r_get (v := .int (s0.1 0 21)) K hw i_Model sh_Model rfl 21 (by decide) w_1046 rfl rfl rfl d_Model_next_135 ?_
        refine lv_iconst (v := 1) hx hb d_Model_next_138 (by decide) ?_
        refine lv_iadd hx hb d_Model_next_139 ?_
        refine r_putI K hw i_Model t_Model t_Model_ok n_Model sh_Model rfl 21 (by decide) w_1046 rfl rfl rfl rfl rfl d_Model_next_140 (fun s_39 f_s_39 H locs hw => ?_)
        replace hF := ltN hF f_s_39
        refine lv_goto (tgt := 103) hx hb d_Model_next_143 (by decide) ?_
        exact ih _ _ _ _  hw (lv_sub hl [0] rfl) hF
noncomputable def F_Model_next_52 (s0 : St) : Option St := (lt (up1 s0 0 22 (s0.1 0 21)) (fun s_2 => (lt (up1 s_2 0 23 (0 : Int32)) (fun s_3 => (lt (up1 s_3 0 24 (0 : Int32)) (fun s_4 => (if ¬ (s_4.1 0 21) = (s_4.1 0 7) then (if inB (s_4.1 0 21) 160 = true then (if (F_Model_in (s_4.1 6 (s_4.1 0 21).toNatClampNeg) (97 : Int32) (122 : Int32)) = 0 then (if (F_Model_in (s_4.1 6 (s_4.1 0 21).toNatClampNeg) (48 : Int32) (57 : Int32)) = 0 then (if (s_4.1 6 (s_4.1 0 21).toNatClampNeg) = (40 : Int32) then (F_Model_next_374 s_4 (s_4.1 6 (s_4.1 0 21).toNatClampNeg)) else (if (s_4.1 6 (s_4.1 0 21).toNatClampNeg) = (41 : Int32) then (F_Model_next_374 s_4 (s_4.1 6 (s_4.1 0 21).toNatClampNeg)) else (if (s_4.1 6 (s_4.1 0 21).toNatClampNeg) = (59 : Int32) then (F_Model_next_374 s_4 (s_4.1 6 (s_4.1 0 21).toNatClampNeg)) else (if (s_4.1 6 (s_4.1 0 21).toNatClampNeg) = (43 : Int32) then (F_Model_next_374 s_4 (s_4.1 6 (s_4.1 0 21).toNatClampNeg)) else (if (s_4.1 6 (s_4.1 0 21).toNatClampNeg) = (45 : Int32) then (F_Model_next_374 s_4 (s_4.1 6 (s_4.1 0 21).toNatClampNeg)) else (if (s_4.1 6 (s_4.1 0 21).toNatClampNeg) = (42 : Int32) then (F_Model_next_374 s_4 (s_4.1 6 (s_4.1 0 21).toNatClampNeg)) else (if (s_4.1 6 (s_4.1 0 21).toNatClampNeg) = (60 : Int32) then (F_Model_next_374 s_4 (s_4.1 6 (s_4.1 0 21).toNatClampNeg)) else (if ¬ (s_4.1 6 (s_4.1 0 21).toNatClampNeg) = (61 : Int32) then (F_Model_next_379 s_4 (s_4.1 6 (s_4.1 0 21).toNatClampNeg) (0 : Int32)) else (F_Model_next_374 s_4 (s_4.1 6 (s_4.1 0 21).toNatClampNeg)))))))))) else (F_Model_next_230 FU s_4 (0 : Int32))) else (F_Model_next_103 FU s_4)) else none) else (some s_4))))))))
set_option maxHeartbeats 4000000 in
set_option maxRecDepth 100000 in
theorem q_Model_next_52 (K : Fx p s m args meth c b_Model_next 3 R_Model none)  : ∀ (H : Heap) (locs : List Loc) (ls : Array Slot) (s0 : St), Wh D cA ad shM A s s0 H locs → lv_has ls 3 [(0, .ref (ad 0))] → F_Model_next_52 s0 = (some τ) → W p l e rm_Model_next s m args below meth c H locs 0 0 (MQ below (QcV D cA ad shM A τ) args s 0 0 A) (F0 m 52 ls []) := by
  have hx := K.1.1; have hb := K.1.2.1
  intro H locs ls s0 hw hl hF
  unfold F_Model_next_52 at hF
  refine lv_aload_n hx hb d_Model_next_52 rfl (lv_at hl 0 rfl) ?_
  refine lv_aload_n hx hb d_Model_next_53 rfl (lv_at hl 0 rfl) ?_
  refine r_get (v := .int (s0.1 0 21)) K hw i_Model sh_Model rfl 21 (by decide) w_1046 rfl rfl rfl d_Model_next_54 ?_
  refine r_putI K hw i_Model t_Model t_Model_ok n_Model sh_Model rfl 22 (by decide) w_1047 rfl rfl rfl rfl rfl d_Model_next_57 (fun s_2 f_s_2 H locs hw => ?_)
  replace hF := ltN hF f_s_2
  refine lv_aload_n hx hb d_Model_next_60 rfl (lv_at hl 0 rfl) ?_
  refine lv_iconst (v := 0) hx hb d_Model_next_61 (by decide) ?_
  refine r_putI K hw i_Model t_Model t_Model_ok n_Model sh_Model rfl 23 (by decide) w_1048 rfl rfl rfl rfl rfl d_Model_next_62 (fun s_3 f_s_3 H locs hw => ?_)
  replace hF := ltN hF f_s_3
  refine lv_aload_n hx hb d_Model_next_65 rfl (lv_at hl 0 rfl) ?_
  refine lv_iconst (v := 0) hx hb d_Model_next_66 (by decide) ?_
  refine r_putI K hw i_Model t_Model t_Model_ok n_Model sh_Model rfl 24 (by decide) w_1049 rfl rfl rfl rfl rfl d_Model_next_67 (fun s_4 f_s_4 H locs hw => ?_)
  replace hF := ltN hF f_s_4
  refine lv_aload_n hx hb d_Model_next_70 rfl (lv_at hl 0 rfl) ?_
  refine r_get (v := .int (s_4.1 0 21)) K hw i_Model sh_Model rfl 21 (by decide) w_1046 rfl rfl rfl d_Model_next_71 ?_
  refine lv_aload_n hx hb d_Model_next_74 rfl (lv_at hl 0 rfl) ?_
  refine r_get (v := .int (s_4.1 0 7)) K hw i_Model sh_Model rfl 7 (by decide) w_1032 rfl rfl rfl d_Model_next_75 ?_
  refine lv_icmp_ne (tgt := 82) hx hb d_Model_next_78 (by decide) (fun c_5 => ?_) (fun c_5 => ?_)
  · replace hF := ifT hF c_5
    refine lv_aload_n hx hb d_Model_next_82 rfl (lv_at hl 0 rfl) ?_
    refine r_get (v := .ref (ad 6)) K hw i_Model sh_Model rfl 6 (by decide) w_1031 rfl rfl rfl d_Model_next_83 ?_
    refine lv_aload_n hx hb d_Model_next_86 rfl (lv_at hl 0 rfl) ?_
    refine r_get (v := .int (s_4.1 0 21)) K hw i_Model sh_Model rfl 21 (by decide) w_1046 rfl rfl rfl d_Model_next_87 ?_
    obtain ⟨g_6, hF⟩ := ifG hF
    refine r_iald (k := (s_4.1 0 21).toNatClampNeg) K hw (show shM[6]? = some (.inr (.inl 160)) from rfl) rfl (inB_vp g_6) d_Model_next_90 ?_
    refine lv_istore_n (lv' := [(1, .int (s_4.1 6 (s_4.1 0 21).toNatClampNeg)), (0, .ref (ad 0))]) hx hb d_Model_next_91 rfl hl (by decide) rfl (fun ls hl => ?_)
    refine lv_iload_n hx hb d_Model_next_92 rfl (lv_at hl 0 rfl) ?_
    refine lv_bipush (v := 97) hx hb d_Model_next_93 (by decide) ?_
    refine lv_bipush (v := 122) hx hb d_Model_next_95 (by decide) ?_
    refine r_callSI (As := [.int (s_4.1 6 (s_4.1 0 21).toNatClampNeg), .int (97 : Int32), .int (122 : Int32)]) (rest := []) K hw hl.1 (c_Model_in (l := l) (D := D) (cA := cA) (ad := ad) (s0 := s_4)   rfl) (tb_gS w_986 w_987 w_80 w_988) a_Model_in ⟨rfl, rfl, Nat.le_of_ble_eq_true rfl, Nat.le_of_ble_eq_true rfl⟩ rfl rfl (Nat.le_of_ble_eq_true rfl) d_Model_next_97 (fun H locs hw => ?_)
    refine lv_if_eq (tgt := 217) hx hb d_Model_next_100 (by decide) (fun c_7 => ?_) (fun c_7 => ?_)
    · replace hF := ifT hF c_7
      refine lv_iload_n hx hb d_Model_next_217 rfl (lv_at hl 0 rfl) ?_
      refine lv_bipush (v := 48) hx hb d_Model_next_218 (by decide) ?_
      refine lv_bipush (v := 57) hx hb d_Model_next_220 (by decide) ?_
      refine r_callSI (As := [.int (s_4.1 6 (s_4.1 0 21).toNatClampNeg), .int (48 : Int32), .int (57 : Int32)]) (rest := []) K hw hl.1 (c_Model_in (l := l) (D := D) (cA := cA) (ad := ad) (s0 := s_4)   rfl) (tb_gS w_986 w_987 w_80 w_988) a_Model_in ⟨rfl, rfl, Nat.le_of_ble_eq_true rfl, Nat.le_of_ble_eq_true rfl⟩ rfl rfl (Nat.le_of_ble_eq_true rfl) d_Model_next_222 (fun H locs hw => ?_)
      refine lv_if_eq (tgt := 326) hx hb d_Model_next_225 (by decide) (fun c_8 => ?_) (fun c_8 => ?_)
      · replace hF := ifT hF c_8
        refine lv_iload_n hx hb d_Model_next_326 rfl (lv_at hl 0 rfl) ?_
        refine lv_bipush (v := 40) hx hb d_Model_next_327 (by decide) ?_
        refine lv_icmp_eq (tgt := 374) hx hb d_Model_next_329 (by decide) (fun c_9 => ?_) (fun c_9 => ?_)
        · replace hF := ifT hF c_9
          exact q_Model_next_374 K _ _ _ _ _  hw (lv_sub hl [1, 0] rfl) hF
        · replace hF := ifF hF c_9
          refine lv_iload_n hx hb d_Model_next_332 rfl (lv_at hl 0 rfl) ?_
          refine lv_bipush (v := 41) hx hb d_Model_next_333 (by decide) ?_
          refine lv_icmp_eq (tgt := 374) hx hb d_Model_next_335 (by decide) (fun c_13 => ?_) (fun c_13 => ?_)
          · replace hF := ifT hF c_13
            exact q_Model_next_374 K _ _ _ _ _  hw (lv_sub hl [1, 0] rfl) hF
          · replace hF := ifF hF c_13
            refine lv_iload_n hx hb d_Model_next_338 rfl (lv_at hl 0 rfl) ?_
            refine lv_bipush (v := 59) hx hb d_Model_next_339 (by decide) ?_
            refine lv_icmp_eq (tgt := 374) hx hb d_Model_next_341 (by decide) (fun c_14 => ?_) (fun c_14 => ?_)
            · replace hF := ifT hF c_14
              exact q_Model_next_374 K _ _ _ _ _  hw (lv_sub hl [1, 0] rfl) hF
            · replace hF := ifF hF c_14
              refine lv_iload_n hx hb d_Model_next_344 rfl (lv_at hl 0 rfl) ?_
              refine lv_bipush (v := 43) hx hb d_Model_next_345 (by decide) ?_
              refine lv_icmp_eq (tgt := 374) hx hb d_Model_next_347 (by decide) (fun c_15 => ?_) (fun c_15 => ?_)
              · replace hF := ifT hF c_15
                exact q_Model_next_374 K _ _ _ _ _  hw (lv_sub hl [1, 0] rfl) hF
              · replace hF := ifF hF c_15
                refine lv_iload_n hx hb d_Model_next_350 rfl (lv_at hl 0 rfl) ?_
                refine lv_bipush (v := 45) hx hb d_Model_next_351 (by decide) ?_
                refine lv_icmp_eq (tgt := 374) hx hb d_Model_next_353 (by decide) (fun c_16 => ?_) (fun c_16 => ?_)
                · replace hF := ifT hF c_16
                  exact q_Model_next_374 K _ _ _ _ _  hw (lv_sub hl [1, 0] rfl) hF
                · replace hF := ifF hF c_16
                  refine lv_iload_n hx hb d_Model_next_356 rfl (lv_at hl 0 rfl) ?_
                  refine lv_bipush (v := 42) hx hb d_Model_next_357 (by decide) ?_
                  refine lv_icmp_eq (tgt := 374) hx hb d_Model_next_359 (by decide) (fun c_17 => ?_) (fun c_17 => ?_)
                  · replace hF := ifT hF c_17
                    exact q_Model_next_374 K _ _ _ _ _  hw (lv_sub hl [1, 0] rfl) hF
                  · replace hF := ifF hF c_17
                    refine lv_iload_n hx hb d_Model_next_362 rfl (lv_at hl 0 rfl) ?_
                    refine lv_bipush (v := 60) hx hb d_Model_next_363 (by decide) ?_
                    refine lv_icmp_eq (tgt := 374) hx hb d_Model_next_365 (by decide) (fun c_18 => ?_) (fun c_18 => ?_)
                    · replace hF := ifT hF c_18
                      exact q_Model_next_374 K _ _ _ _ _  hw (lv_sub hl [1, 0] rfl) hF
                    · replace hF := ifF hF c_18
                      refine lv_iload_n hx hb d_Model_next_368 rfl (lv_at hl 0 rfl) ?_
                      refine lv_bipush (v := 61) hx hb d_Model_next_369 (by decide) ?_
                      refine lv_icmp_ne (tgt := 378) hx hb d_Model_next_371 (by decide) (fun c_19 => ?_) (fun c_19 => ?_)
                      · replace hF := ifT hF c_19
                        refine lv_iconst (v := 0) hx hb d_Model_next_378 (by decide) ?_
                        exact q_Model_next_379 K _ _ _ _ _ _  hw (lv_sub hl [1, 0] rfl) hF
                      · replace hF := ifN hF c_19
                        exact q_Model_next_374 K _ _ _ _ _  hw (lv_sub hl [1, 0] rfl) hF
      · replace hF := ifF hF c_8
        refine lv_iconst (v := 0) hx hb d_Model_next_228 (by decide) ?_
        refine lv_istore_n (lv' := [(2, .int (0 : Int32)), (1, .int (s_4.1 6 (s_4.1 0 21).toNatClampNeg)), (0, .ref (ad 0))]) hx hb d_Model_next_229 rfl hl (by decide) rfl (fun ls hl => ?_)
        exact q_Model_next_230 K FU _ _ _ _ _  hw (lv_sub hl [2, 0] rfl) hF
    · replace hF := ifF hF c_7
      exact q_Model_next_103 K FU _ _ _ _  hw (lv_sub hl [1] rfl) hF
  · replace hF := ifN hF c_5
    replace hF := sE1 hF
    subst hF
    exact r_vret K hw d_Model_next_81
noncomputable def F_Model_next_39 (k0 : (St → Option St)) (s0 : St) : Option St := (lt (up1 s0 0 21 ((s0.1 0 21) + (1 : Int32))) (fun s_42 => (k0 s_42)))
set_option maxHeartbeats 4000000 in
set_option maxRecDepth 100000 in
theorem q_Model_next_39 (K : Fx p s m args meth c b_Model_next 3 R_Model none) (k0 : (St → Option St)) (hk0 : ∀ (H : Heap) (locs : List Loc) (ls : Array Slot) (s0 : St), Wh D cA ad shM A s s0 H locs → lv_has ls 3 [(0, .ref (ad 0))] → k0 s0 = (some τ) → W p l e rm_Model_next s m args below meth c H locs 0 0 (MQ below (QcV D cA ad shM A τ) args s 0 0 A) (F0 m 0 ls [])) : ∀ (H : Heap) (locs : List Loc) (ls : Array Slot) (s0 : St), Wh D cA ad shM A s s0 H locs → lv_has ls 3 [(0, .ref (ad 0))] → F_Model_next_39 k0 s0 = (some τ) → W p l e rm_Model_next s m args below meth c H locs 0 0 (MQ below (QcV D cA ad shM A τ) args s 0 0 A) (F0 m 39 ls []) := by
  have hx := K.1.1; have hb := K.1.2.1
  intro H locs ls s0 hw hl hF
  unfold F_Model_next_39 at hF
  refine lv_aload_n hx hb d_Model_next_39 rfl (lv_at hl 0 rfl) ?_
  refine lv_dup hx hb d_Model_next_40 rfl ?_
  refine r_get (v := .int (s0.1 0 21)) K hw i_Model sh_Model rfl 21 (by decide) w_1046 rfl rfl rfl d_Model_next_41 ?_
  refine lv_iconst (v := 1) hx hb d_Model_next_44 (by decide) ?_
  refine lv_iadd hx hb d_Model_next_45 ?_
  refine r_putI K hw i_Model t_Model t_Model_ok n_Model sh_Model rfl 21 (by decide) w_1046 rfl rfl rfl rfl rfl d_Model_next_46 (fun s_42 f_s_42 H locs hw => ?_)
  replace hF := ltN hF f_s_42
  refine lv_goto (tgt := 0) hx hb d_Model_next_49 (by decide) ?_
  exact hk0 _ _ _ _  hw (lv_sub hl [0] rfl) hF
noncomputable def F_Model_next_0 : Nat → St → Option St
  | 0, _ => none
  | n + 1, s0 => (if (s0.1 0 7) ≤ (s0.1 0 21) then (F_Model_next_52 s0) else (if inB (s0.1 0 21) 160 = true then (if (s0.1 6 (s0.1 0 21).toNatClampNeg) = (32 : Int32) then (F_Model_next_39 (fun z0 => F_Model_next_0 n z0) s0) else (if inB (s0.1 0 21) 160 = true then (if ¬ (s0.1 6 (s0.1 0 21).toNatClampNeg) = (10 : Int32) then (F_Model_next_52 s0) else (F_Model_next_39 (fun z0 => F_Model_next_0 n z0) s0)) else none)) else none))
set_option maxHeartbeats 4000000 in
set_option maxRecDepth 100000 in
theorem q_Model_next_0 (K : Fx p s m args meth c b_Model_next 3 R_Model none)  : ∀ (n : Nat), ∀ (H : Heap) (locs : List Loc) (ls : Array Slot) (s0 : St), Wh D cA ad shM A s s0 H locs → lv_has ls 3 [(0, .ref (ad 0))] → F_Model_next_0 n s0 = (some τ) → W p l e rm_Model_next s m args below meth c H locs 0 0 (MQ below (QcV D cA ad shM A τ) args s 0 0 A) (F0 m 0 ls []) := by
  have hx := K.1.1; have hb := K.1.2.1
  intro n
  induction n with
  | zero =>
    intro H locs ls s0 hw hl hF
    exact absurd hF (by rw [F_Model_next_0]; exact nofun)
  | succ n ih =>
    intro H locs ls s0 hw hl hF
    rw [F_Model_next_0] at hF
    refine lv_aload_n hx hb d_Model_next_0 rfl (lv_at hl 0 rfl) ?_
    refine r_get (v := .int (s0.1 0 21)) K hw i_Model sh_Model rfl 21 (by decide) w_1046 rfl rfl rfl d_Model_next_1 ?_
    refine lv_aload_n hx hb d_Model_next_4 rfl (lv_at hl 0 rfl) ?_
    refine r_get (v := .int (s0.1 0 7)) K hw i_Model sh_Model rfl 7 (by decide) w_1032 rfl rfl rfl d_Model_next_5 ?_
    refine lv_icmp_ge (tgt := 52) hx hb d_Model_next_8 (by decide) (fun c_1 => ?_) (fun c_1 => ?_)
    · replace hF := ifT hF c_1
      exact q_Model_next_52 K _ _ _ _  hw (lv_sub hl [0] rfl) hF
    · replace hF := ifF hF c_1
      refine lv_aload_n hx hb d_Model_next_11 rfl (lv_at hl 0 rfl) ?_
      refine r_get (v := .ref (ad 6)) K hw i_Model sh_Model rfl 6 (by decide) w_1031 rfl rfl rfl d_Model_next_12 ?_
      refine lv_aload_n hx hb d_Model_next_15 rfl (lv_at hl 0 rfl) ?_
      refine r_get (v := .int (s0.1 0 21)) K hw i_Model sh_Model rfl 21 (by decide) w_1046 rfl rfl rfl d_Model_next_16 ?_
      obtain ⟨g_40, hF⟩ := ifG hF
      refine r_iald (k := (s0.1 0 21).toNatClampNeg) K hw (show shM[6]? = some (.inr (.inl 160)) from rfl) rfl (inB_vp g_40) d_Model_next_19 ?_
      refine lv_bipush (v := 32) hx hb d_Model_next_20 (by decide) ?_
      refine lv_icmp_eq (tgt := 39) hx hb d_Model_next_22 (by decide) (fun c_41 => ?_) (fun c_41 => ?_)
      · replace hF := ifT hF c_41
        exact q_Model_next_39 K (fun z0 => F_Model_next_0 n z0) ih _ _ _ _  hw (lv_sub hl [0] rfl) hF
      · replace hF := ifF hF c_41
        refine lv_aload_n hx hb d_Model_next_25 rfl (lv_at hl 0 rfl) ?_
        refine r_get (v := .ref (ad 6)) K hw i_Model sh_Model rfl 6 (by decide) w_1031 rfl rfl rfl d_Model_next_26 ?_
        refine lv_aload_n hx hb d_Model_next_29 rfl (lv_at hl 0 rfl) ?_
        refine r_get (v := .int (s0.1 0 21)) K hw i_Model sh_Model rfl 21 (by decide) w_1046 rfl rfl rfl d_Model_next_30 ?_
        obtain ⟨g_43, hF⟩ := ifG hF
        refine r_iald (k := (s0.1 0 21).toNatClampNeg) K hw (show shM[6]? = some (.inr (.inl 160)) from rfl) rfl (inB_vp g_43) d_Model_next_33 ?_
        refine lv_bipush (v := 10) hx hb d_Model_next_34 (by decide) ?_
        refine lv_icmp_ne (tgt := 52) hx hb d_Model_next_36 (by decide) (fun c_44 => ?_) (fun c_44 => ?_)
        · replace hF := ifT hF c_44
          exact q_Model_next_52 K _ _ _ _  hw (lv_sub hl [0] rfl) hF
        · replace hF := ifN hF c_44
          exact q_Model_next_39 K (fun z0 => F_Model_next_0 n z0) ih _ _ _ _  hw (lv_sub hl [0] rfl) hF
end S_Model_next
noncomputable abbrev F_Model_next := F_Model_next_0 FU
theorem c_Model_next {l : Launch} {D : va_G} {cA : Nat → ClassId} {ad : Nat → Nat} {s0 τ : St}   (hF : F_Model_next s0 = (some τ)) : MV l D cA ad shM y_Model_next (wT y_Model_next b_Model_next 3 none) rm_Model_next [.ref (ad 0)] s0 τ := fun sz => m_start (Qc := fun A => QcV D cA ad shM A τ) (by decide +kernel) w_985 (Nat.le_of_ble_eq_true rfl) (fun p e s m below meth c ls K hl hw => q_Model_next_0 K FU _ _ _ _   hw hl hF)

/-! Model.rank(I)I -/
abbrev b_Model_rank : ByteArray := prog_13_method_13_code
def y_Model_rank : MethodName := ⟨R_Model, "rank", "(I)I"⟩
theorem a_Model_rank : y_Model_rank.cls = R_Model ∧ y_Model_rank.cls ≠ "java/lang/invoke/MethodHandle" ∧ y_Model_rank.cls ≠ "java/lang/invoke/VarHandle" ∧ (parseMethodDescriptor y_Model_rank.desc).map (fun d => d.parameters.length) = some 1 := by decide +kernel
abbrev rm_Model_rank : Room := { frames := 0, cells := 0, slots := 0, locals := 0 }
theorem w_1008 : Cond.code y_Model_rank b_Model_rank 1 (some .int) ∈ TB := tb_in 1008 (by decide +kernel) (by decide +kernel)
theorem d_Model_rank_0 : decode b_Model_rank 0 = .ok (.iload_n 0, 1) := by decide +kernel
theorem d_Model_rank_1 : decode b_Model_rank 1 = .ok (.ifCond .ne 7, 3) := by decide +kernel
theorem d_Model_rank_4 : decode b_Model_rank 4 = .ok (.iconst 0, 1) := by decide +kernel
theorem d_Model_rank_5 : decode b_Model_rank 5 = .ok (.goto 66, 3) := by decide +kernel
theorem d_Model_rank_8 : decode b_Model_rank 8 = .ok (.iload_n 0, 1) := by decide +kernel
theorem d_Model_rank_9 : decode b_Model_rank 9 = .ok (.bipush 11, 2) := by decide +kernel
theorem d_Model_rank_11 : decode b_Model_rank 11 = .ok (.if_icmp .ne 7, 3) := by decide +kernel
theorem d_Model_rank_14 : decode b_Model_rank 14 = .ok (.iconst 1, 1) := by decide +kernel
theorem d_Model_rank_15 : decode b_Model_rank 15 = .ok (.goto 56, 3) := by decide +kernel
theorem d_Model_rank_18 : decode b_Model_rank 18 = .ok (.iload_n 0, 1) := by decide +kernel
theorem d_Model_rank_19 : decode b_Model_rank 19 = .ok (.bipush 12, 2) := by decide +kernel
theorem d_Model_rank_21 : decode b_Model_rank 21 = .ok (.if_icmp .ne 7, 3) := by decide +kernel
theorem d_Model_rank_24 : decode b_Model_rank 24 = .ok (.iconst 2, 1) := by decide +kernel
theorem d_Model_rank_25 : decode b_Model_rank 25 = .ok (.goto 46, 3) := by decide +kernel
theorem d_Model_rank_28 : decode b_Model_rank 28 = .ok (.iload_n 0, 1) := by decide +kernel
theorem d_Model_rank_29 : decode b_Model_rank 29 = .ok (.bipush 13, 2) := by decide +kernel
theorem d_Model_rank_31 : decode b_Model_rank 31 = .ok (.if_icmp .ne 7, 3) := by decide +kernel
theorem d_Model_rank_34 : decode b_Model_rank 34 = .ok (.iconst 3, 1) := by decide +kernel
theorem d_Model_rank_35 : decode b_Model_rank 35 = .ok (.goto 36, 3) := by decide +kernel
theorem d_Model_rank_38 : decode b_Model_rank 38 = .ok (.iload_n 0, 1) := by decide +kernel
theorem d_Model_rank_39 : decode b_Model_rank 39 = .ok (.bipush 15, 2) := by decide +kernel
theorem d_Model_rank_41 : decode b_Model_rank 41 = .ok (.if_icmp .gt 7, 3) := by decide +kernel
theorem d_Model_rank_44 : decode b_Model_rank 44 = .ok (.iconst 4, 1) := by decide +kernel
theorem d_Model_rank_45 : decode b_Model_rank 45 = .ok (.goto 26, 3) := by decide +kernel
theorem d_Model_rank_48 : decode b_Model_rank 48 = .ok (.iload_n 0, 1) := by decide +kernel
theorem d_Model_rank_49 : decode b_Model_rank 49 = .ok (.bipush 17, 2) := by decide +kernel
theorem d_Model_rank_51 : decode b_Model_rank 51 = .ok (.if_icmp .gt 7, 3) := by decide +kernel
theorem d_Model_rank_54 : decode b_Model_rank 54 = .ok (.iconst 5, 1) := by decide +kernel
theorem d_Model_rank_55 : decode b_Model_rank 55 = .ok (.goto 16, 3) := by decide +kernel
theorem d_Model_rank_58 : decode b_Model_rank 58 = .ok (.iload_n 0, 1) := by decide +kernel
theorem d_Model_rank_59 : decode b_Model_rank 59 = .ok (.bipush 18, 2) := by decide +kernel
theorem d_Model_rank_61 : decode b_Model_rank 61 = .ok (.if_icmp .ne 8, 3) := by decide +kernel
theorem d_Model_rank_64 : decode b_Model_rank 64 = .ok (.bipush 6, 2) := by decide +kernel
theorem d_Model_rank_66 : decode b_Model_rank 66 = .ok (.goto 5, 3) := by decide +kernel
theorem d_Model_rank_69 : decode b_Model_rank 69 = .ok (.bipush 7, 2) := by decide +kernel
theorem d_Model_rank_71 : decode b_Model_rank 71 = .ok (.ireturn, 1) := by decide +kernel
section S_Model_rank
variable {p : Program} {l : Launch} {e : Env} {s : State} {m : MethodId} {args : Array Value} {below : List Frame} {meth : Method} {c : Code} {D : va_G} {cA : Nat → ClassId} {ad : Nat → Nat} {nC : Nat} {A : Nat → Prop} {r : Int32} {τ : St}
noncomputable def F_Model_rank_0 (v0 : Int32) : Int32 := (if ¬ v0 = 0 then (if ¬ v0 = (11 : Int32) then (if ¬ v0 = (12 : Int32) then (if ¬ v0 = (13 : Int32) then (if (15 : Int32) < v0 then (if (17 : Int32) < v0 then (if ¬ v0 = (18 : Int32) then (7 : Int32) else (6 : Int32)) else (5 : Int32)) else (4 : Int32)) else (3 : Int32)) else (2 : Int32)) else (1 : Int32)) else (0 : Int32))
set_option maxHeartbeats 4000000 in
set_option maxRecDepth 100000 in
theorem q_Model_rank_0 (s0 : St) (K : Fx p s m args meth c b_Model_rank 1 R_Model (some .int))  : ∀ (H : Heap) (locs : List Loc) (ls : Array Slot) (v0 : Int32), Wh D cA ad shM A s s0 H locs → lv_has ls 1 [(0, .int v0)] → F_Model_rank_0 v0 = r → W p l e rm_Model_rank s m args below meth c H locs 0 0 (MQ below (QcI D cA ad shM A r s0) args s 0 0 A) (F0 m 0 ls []) := by
  have hx := K.1.1; have hb := K.1.2.1
  intro H locs ls v0 hw hl hF
  unfold F_Model_rank_0 at hF
  refine lv_iload_n hx hb d_Model_rank_0 rfl (lv_at hl 0 rfl) ?_
  refine lv_if_ne (tgt := 8) hx hb d_Model_rank_1 (by decide) (fun c_1 => ?_) (fun c_1 => ?_)
  · replace hF := ifT hF c_1
    refine lv_iload_n hx hb d_Model_rank_8 rfl (lv_at hl 0 rfl) ?_
    refine lv_bipush (v := 11) hx hb d_Model_rank_9 (by decide) ?_
    refine lv_icmp_ne (tgt := 18) hx hb d_Model_rank_11 (by decide) (fun c_2 => ?_) (fun c_2 => ?_)
    · replace hF := ifT hF c_2
      refine lv_iload_n hx hb d_Model_rank_18 rfl (lv_at hl 0 rfl) ?_
      refine lv_bipush (v := 12) hx hb d_Model_rank_19 (by decide) ?_
      refine lv_icmp_ne (tgt := 28) hx hb d_Model_rank_21 (by decide) (fun c_3 => ?_) (fun c_3 => ?_)
      · replace hF := ifT hF c_3
        refine lv_iload_n hx hb d_Model_rank_28 rfl (lv_at hl 0 rfl) ?_
        refine lv_bipush (v := 13) hx hb d_Model_rank_29 (by decide) ?_
        refine lv_icmp_ne (tgt := 38) hx hb d_Model_rank_31 (by decide) (fun c_4 => ?_) (fun c_4 => ?_)
        · replace hF := ifT hF c_4
          refine lv_iload_n hx hb d_Model_rank_38 rfl (lv_at hl 0 rfl) ?_
          refine lv_bipush (v := 15) hx hb d_Model_rank_39 (by decide) ?_
          refine lv_icmp_gt (tgt := 48) hx hb d_Model_rank_41 (by decide) (fun c_5 => ?_) (fun c_5 => ?_)
          · replace hF := ifT hF c_5
            refine lv_iload_n hx hb d_Model_rank_48 rfl (lv_at hl 0 rfl) ?_
            refine lv_bipush (v := 17) hx hb d_Model_rank_49 (by decide) ?_
            refine lv_icmp_gt (tgt := 58) hx hb d_Model_rank_51 (by decide) (fun c_6 => ?_) (fun c_6 => ?_)
            · replace hF := ifT hF c_6
              refine lv_iload_n hx hb d_Model_rank_58 rfl (lv_at hl 0 rfl) ?_
              refine lv_bipush (v := 18) hx hb d_Model_rank_59 (by decide) ?_
              refine lv_icmp_ne (tgt := 69) hx hb d_Model_rank_61 (by decide) (fun c_7 => ?_) (fun c_7 => ?_)
              · replace hF := ifT hF c_7
                refine lv_bipush (v := 7) hx hb d_Model_rank_69 (by decide) ?_
                subst hF
                exact r_iret K hw d_Model_rank_71
              · replace hF := ifN hF c_7
                refine lv_bipush (v := 6) hx hb d_Model_rank_64 (by decide) ?_
                refine lv_goto (tgt := 71) hx hb d_Model_rank_66 (by decide) ?_
                subst hF
                exact r_iret K hw d_Model_rank_71
            · replace hF := ifF hF c_6
              refine lv_iconst (v := 5) hx hb d_Model_rank_54 (by decide) ?_
              refine lv_goto (tgt := 71) hx hb d_Model_rank_55 (by decide) ?_
              subst hF
              exact r_iret K hw d_Model_rank_71
          · replace hF := ifF hF c_5
            refine lv_iconst (v := 4) hx hb d_Model_rank_44 (by decide) ?_
            refine lv_goto (tgt := 71) hx hb d_Model_rank_45 (by decide) ?_
            subst hF
            exact r_iret K hw d_Model_rank_71
        · replace hF := ifN hF c_4
          refine lv_iconst (v := 3) hx hb d_Model_rank_34 (by decide) ?_
          refine lv_goto (tgt := 71) hx hb d_Model_rank_35 (by decide) ?_
          subst hF
          exact r_iret K hw d_Model_rank_71
      · replace hF := ifN hF c_3
        refine lv_iconst (v := 2) hx hb d_Model_rank_24 (by decide) ?_
        refine lv_goto (tgt := 71) hx hb d_Model_rank_25 (by decide) ?_
        subst hF
        exact r_iret K hw d_Model_rank_71
    · replace hF := ifN hF c_2
      refine lv_iconst (v := 1) hx hb d_Model_rank_14 (by decide) ?_
      refine lv_goto (tgt := 71) hx hb d_Model_rank_15 (by decide) ?_
      subst hF
      exact r_iret K hw d_Model_rank_71
  · replace hF := ifN hF c_1
    refine lv_iconst (v := 0) hx hb d_Model_rank_4 (by decide) ?_
    refine lv_goto (tgt := 71) hx hb d_Model_rank_5 (by decide) ?_
    subst hF
    exact r_iret K hw d_Model_rank_71
end S_Model_rank
noncomputable abbrev F_Model_rank := F_Model_rank_0
theorem c_Model_rank {l : Launch} {D : va_G} {cA : Nat → ClassId} {ad : Nat → Nat} {s0 : St} {r : Int32} {v0 : Int32}  (hF : F_Model_rank v0 = r) : MI l D cA ad shM y_Model_rank (wT y_Model_rank b_Model_rank 1 (some .int)) rm_Model_rank [.int v0] s0 r s0 := fun sz => m_start (Qc := fun A => QcI D cA ad shM A r s0) (by decide +kernel) w_1008 (Nat.le_of_ble_eq_true rfl) (fun p e s m below meth c ls K hl hw => q_Model_rank_0 s0 K _ _ _ _  hw hl hF)

/-! Model.puts(I)V -/
abbrev b_Model_puts : ByteArray := prog_13_method_14_code
def y_Model_puts : MethodName := ⟨R_Model, "puts", "(I)V"⟩
theorem a_Model_puts : y_Model_puts.cls = R_Model ∧ y_Model_puts.cls ≠ "java/lang/invoke/MethodHandle" ∧ y_Model_puts.cls ≠ "java/lang/invoke/VarHandle" ∧ (parseMethodDescriptor y_Model_puts.desc).map (fun d => d.parameters.length) = some 1 := by decide +kernel
abbrev rm_Model_puts : Room := { frames := 0, cells := 0, slots := 0, locals := 0 }
theorem w_1033 : Cond.fieldLink R_Model 28 R_Model "codes" "[I" ∈ TB := tb_in 1033 (by decide +kernel) (by decide +kernel)
theorem w_1054 : Cond.fieldLink R_Model 115 R_Model "out" "I" ∈ TB := tb_in 1054 (by decide +kernel) (by decide +kernel)
theorem w_1001 : Cond.code y_Model_puts b_Model_puts 2 none ∈ TB := tb_in 1001 (by decide +kernel) (by decide +kernel)
theorem d_Model_puts_0 : decode b_Model_puts 0 = .ok (.aload_n 0, 1) := by decide +kernel
theorem d_Model_puts_1 : decode b_Model_puts 1 = .ok (.getfield 28, 3) := by decide +kernel
theorem d_Model_puts_4 : decode b_Model_puts 4 = .ok (.sipush 200, 3) := by decide +kernel
theorem d_Model_puts_7 : decode b_Model_puts 7 = .ok (.aload_n 0, 1) := by decide +kernel
theorem d_Model_puts_8 : decode b_Model_puts 8 = .ok (.getfield 90, 3) := by decide +kernel
theorem d_Model_puts_11 : decode b_Model_puts 11 = .ok (.imul, 1) := by decide +kernel
theorem d_Model_puts_12 : decode b_Model_puts 12 = .ok (.aload_n 0, 1) := by decide +kernel
theorem d_Model_puts_13 : decode b_Model_puts 13 = .ok (.getfield 115, 3) := by decide +kernel
theorem d_Model_puts_16 : decode b_Model_puts 16 = .ok (.iadd, 1) := by decide +kernel
theorem d_Model_puts_17 : decode b_Model_puts 17 = .ok (.iload_n 1, 1) := by decide +kernel
theorem d_Model_puts_18 : decode b_Model_puts 18 = .ok (.iastore, 1) := by decide +kernel
theorem d_Model_puts_19 : decode b_Model_puts 19 = .ok (.aload_n 0, 1) := by decide +kernel
theorem d_Model_puts_20 : decode b_Model_puts 20 = .ok (.dup, 1) := by decide +kernel
theorem d_Model_puts_21 : decode b_Model_puts 21 = .ok (.getfield 115, 3) := by decide +kernel
theorem d_Model_puts_24 : decode b_Model_puts 24 = .ok (.iconst 1, 1) := by decide +kernel
theorem d_Model_puts_25 : decode b_Model_puts 25 = .ok (.iadd, 1) := by decide +kernel
theorem d_Model_puts_26 : decode b_Model_puts 26 = .ok (.putfield 115, 3) := by decide +kernel
theorem d_Model_puts_29 : decode b_Model_puts 29 = .ok (.return_, 1) := by decide +kernel
section S_Model_puts
variable {p : Program} {l : Launch} {e : Env} {s : State} {m : MethodId} {args : Array Value} {below : List Frame} {meth : Method} {c : Code} {D : va_G} {cA : Nat → ClassId} {ad : Nat → Nat} {nC : Nat} {A : Nat → Prop} {τ : St}
noncomputable def F_Model_puts_0 (s0 : St) (v1 : Int32) : Option St := (if inB (((200 : Int32) * (s0.1 0 10)) + (s0.1 0 29)) 1200 = true then (lt (up1 s0 7 (((200 : Int32) * (s0.1 0 10)) + (s0.1 0 29)).toNatClampNeg v1) (fun s_2 => (lt (up1 s_2 0 29 ((s_2.1 0 29) + (1 : Int32))) (fun s_3 => (some s_3))))) else none)
set_option maxHeartbeats 4000000 in
set_option maxRecDepth 100000 in
theorem q_Model_puts_0 (K : Fx p s m args meth c b_Model_puts 2 R_Model none)  : ∀ (H : Heap) (locs : List Loc) (ls : Array Slot) (s0 : St) (v1 : Int32), Wh D cA ad shM A s s0 H locs → lv_has ls 2 [(0, .ref (ad 0)), (1, .int v1)] → F_Model_puts_0 s0 v1 = (some τ) → W p l e rm_Model_puts s m args below meth c H locs 0 0 (MQ below (QcV D cA ad shM A τ) args s 0 0 A) (F0 m 0 ls []) := by
  have hx := K.1.1; have hb := K.1.2.1
  intro H locs ls s0 v1 hw hl hF
  unfold F_Model_puts_0 at hF
  refine lv_aload_n hx hb d_Model_puts_0 rfl (lv_at hl 0 rfl) ?_
  refine r_get (v := .ref (ad 7)) K hw i_Model sh_Model rfl 8 (by decide) w_1033 rfl rfl rfl d_Model_puts_1 ?_
  refine lv_sipush (v := 200) hx hb d_Model_puts_4 (by decide) ?_
  refine lv_aload_n hx hb d_Model_puts_7 rfl (lv_at hl 0 rfl) ?_
  refine r_get (v := .int (s0.1 0 10)) K hw i_Model sh_Model rfl 10 (by decide) w_1035 rfl rfl rfl d_Model_puts_8 ?_
  refine lv_imul hx hb d_Model_puts_11 ?_
  refine lv_aload_n hx hb d_Model_puts_12 rfl (lv_at hl 0 rfl) ?_
  refine r_get (v := .int (s0.1 0 29)) K hw i_Model sh_Model rfl 29 (by decide) w_1054 rfl rfl rfl d_Model_puts_13 ?_
  refine lv_iadd hx hb d_Model_puts_16 ?_
  refine lv_iload_n hx hb d_Model_puts_17 rfl (lv_at hl 1 rfl) ?_
  obtain ⟨g_1, hF⟩ := ifG hF
  refine r_iast (k := (((200 : Int32) * (s0.1 0 10)) + (s0.1 0 29)).toNatClampNeg) K hw (show shM[7]? = some (.inr (.inl 1200)) from rfl) rfl (inB_vp g_1) d_Model_puts_18 (fun s_2 f_s_2 H locs hw => ?_)
  replace hF := ltN hF f_s_2
  refine lv_aload_n hx hb d_Model_puts_19 rfl (lv_at hl 0 rfl) ?_
  refine lv_dup hx hb d_Model_puts_20 rfl ?_
  refine r_get (v := .int (s_2.1 0 29)) K hw i_Model sh_Model rfl 29 (by decide) w_1054 rfl rfl rfl d_Model_puts_21 ?_
  refine lv_iconst (v := 1) hx hb d_Model_puts_24 (by decide) ?_
  refine lv_iadd hx hb d_Model_puts_25 ?_
  refine r_putI K hw i_Model t_Model t_Model_ok n_Model sh_Model rfl 29 (by decide) w_1054 rfl rfl rfl rfl rfl d_Model_puts_26 (fun s_3 f_s_3 H locs hw => ?_)
  replace hF := ltN hF f_s_3
  replace hF := sE1 hF
  subst hF
  exact r_vret K hw d_Model_puts_29
end S_Model_puts
noncomputable abbrev F_Model_puts := F_Model_puts_0
theorem c_Model_puts {l : Launch} {D : va_G} {cA : Nat → ClassId} {ad : Nat → Nat} {s0 τ : St} {v1 : Int32}  (hF : F_Model_puts s0 v1 = (some τ)) : MV l D cA ad shM y_Model_puts (wT y_Model_puts b_Model_puts 2 none) rm_Model_puts [.ref (ad 0), .int v1] s0 τ := fun sz => m_start (Qc := fun A => QcV D cA ad shM A τ) (by decide +kernel) w_1001 (Nat.le_of_ble_eq_true rfl) (fun p e s m below meth c ls K hl hw => q_Model_puts_0 K _ _ _ _ _  hw hl hF)

/-! Model.unwinds(I)V -/
abbrev b_Model_unwinds : ByteArray := prog_13_method_15_code
def y_Model_unwinds : MethodName := ⟨R_Model, "unwinds", "(I)V"⟩
theorem a_Model_unwinds : y_Model_unwinds.cls = R_Model ∧ y_Model_unwinds.cls ≠ "java/lang/invoke/MethodHandle" ∧ y_Model_unwinds.cls ≠ "java/lang/invoke/VarHandle" ∧ (parseMethodDescriptor y_Model_unwinds.desc).map (fun d => d.parameters.length) = some 1 := by decide +kernel
abbrev rm_Model_unwinds : Room := { frames := 1, cells := 0, slots := 0, locals := 21 }
theorem w_1052 : Cond.fieldLink R_Model 118 R_Model "heldMany" "I" ∈ TB := tb_in 1052 (by decide +kernel) (by decide +kernel)
theorem w_1051 : Cond.fieldLink R_Model 55 R_Model "held" "[I" ∈ TB := tb_in 1051 (by decide +kernel) (by decide +kernel)
theorem w_1006 : Cond.methodLink R_Model 121 y_Model_rank ∈ TB := tb_in 1006 (by decide +kernel) (by decide +kernel)
theorem w_1007 : Cond.static y_Model_rank ∈ TB := tb_in 1007 (by decide +kernel) (by decide +kernel)
theorem w_1053 : Cond.fieldLink R_Model 125 R_Model "opens" "I" ∈ TB := tb_in 1053 (by decide +kernel) (by decide +kernel)
theorem w_998 : Cond.methodLink R_Model 128 y_Model_puts ∈ TB := tb_in 998 (by decide +kernel) (by decide +kernel)
theorem w_1000 : Cond.instanceMethod y_Model_puts ∈ TB := tb_in 1000 (by decide +kernel) (by decide +kernel)
theorem w_33 : Cond.selects R_Model y_Model_puts y_Model_puts ∈ TB := tb_in 33 (by decide +kernel) (by decide +kernel)
theorem w_1005 : Cond.code y_Model_unwinds b_Model_unwinds 3 none ∈ TB := tb_in 1005 (by decide +kernel) (by decide +kernel)
theorem d_Model_unwinds_0 : decode b_Model_unwinds 0 = .ok (.aload_n 0, 1) := by decide +kernel
theorem d_Model_unwinds_1 : decode b_Model_unwinds 1 = .ok (.getfield 118, 3) := by decide +kernel
theorem d_Model_unwinds_4 : decode b_Model_unwinds 4 = .ok (.ifCond .le 75, 3) := by decide +kernel
theorem d_Model_unwinds_7 : decode b_Model_unwinds 7 = .ok (.aload_n 0, 1) := by decide +kernel
theorem d_Model_unwinds_8 : decode b_Model_unwinds 8 = .ok (.getfield 55, 3) := by decide +kernel
theorem d_Model_unwinds_11 : decode b_Model_unwinds 11 = .ok (.aload_n 0, 1) := by decide +kernel
theorem d_Model_unwinds_12 : decode b_Model_unwinds 12 = .ok (.getfield 118, 3) := by decide +kernel
theorem d_Model_unwinds_15 : decode b_Model_unwinds 15 = .ok (.iconst 1, 1) := by decide +kernel
theorem d_Model_unwinds_16 : decode b_Model_unwinds 16 = .ok (.isub, 1) := by decide +kernel
theorem d_Model_unwinds_17 : decode b_Model_unwinds 17 = .ok (.iaload, 1) := by decide +kernel
theorem d_Model_unwinds_18 : decode b_Model_unwinds 18 = .ok (.invokestatic 121, 3) := by decide +kernel
theorem d_Model_unwinds_21 : decode b_Model_unwinds 21 = .ok (.iload_n 1, 1) := by decide +kernel
theorem d_Model_unwinds_22 : decode b_Model_unwinds 22 = .ok (.if_icmp .lt 57, 3) := by decide +kernel
theorem d_Model_unwinds_25 : decode b_Model_unwinds 25 = .ok (.aload_n 0, 1) := by decide +kernel
theorem d_Model_unwinds_26 : decode b_Model_unwinds 26 = .ok (.dup, 1) := by decide +kernel
theorem d_Model_unwinds_27 : decode b_Model_unwinds 27 = .ok (.getfield 118, 3) := by decide +kernel
theorem d_Model_unwinds_30 : decode b_Model_unwinds 30 = .ok (.iconst 1, 1) := by decide +kernel
theorem d_Model_unwinds_31 : decode b_Model_unwinds 31 = .ok (.isub, 1) := by decide +kernel
theorem d_Model_unwinds_32 : decode b_Model_unwinds 32 = .ok (.putfield 118, 3) := by decide +kernel
theorem d_Model_unwinds_35 : decode b_Model_unwinds 35 = .ok (.aload_n 0, 1) := by decide +kernel
theorem d_Model_unwinds_36 : decode b_Model_unwinds 36 = .ok (.getfield 55, 3) := by decide +kernel
theorem d_Model_unwinds_39 : decode b_Model_unwinds 39 = .ok (.aload_n 0, 1) := by decide +kernel
theorem d_Model_unwinds_40 : decode b_Model_unwinds 40 = .ok (.getfield 118, 3) := by decide +kernel
theorem d_Model_unwinds_43 : decode b_Model_unwinds 43 = .ok (.iaload, 1) := by decide +kernel
theorem d_Model_unwinds_44 : decode b_Model_unwinds 44 = .ok (.istore_n 2, 1) := by decide +kernel
theorem d_Model_unwinds_45 : decode b_Model_unwinds 45 = .ok (.aload_n 0, 1) := by decide +kernel
theorem d_Model_unwinds_46 : decode b_Model_unwinds 46 = .ok (.dup, 1) := by decide +kernel
theorem d_Model_unwinds_47 : decode b_Model_unwinds 47 = .ok (.getfield 125, 3) := by decide +kernel
theorem d_Model_unwinds_50 : decode b_Model_unwinds 50 = .ok (.iload_n 2, 1) := by decide +kernel
theorem d_Model_unwinds_51 : decode b_Model_unwinds 51 = .ok (.bipush 13, 2) := by decide +kernel
theorem d_Model_unwinds_53 : decode b_Model_unwinds 53 = .ok (.if_icmp .eq 9, 3) := by decide +kernel
theorem d_Model_unwinds_56 : decode b_Model_unwinds 56 = .ok (.iload_n 2, 1) := by decide +kernel
theorem d_Model_unwinds_57 : decode b_Model_unwinds 57 = .ok (.bipush 19, 2) := by decide +kernel
theorem d_Model_unwinds_59 : decode b_Model_unwinds 59 = .ok (.if_icmp .ne 7, 3) := by decide +kernel
theorem d_Model_unwinds_62 : decode b_Model_unwinds 62 = .ok (.iconst 1, 1) := by decide +kernel
theorem d_Model_unwinds_63 : decode b_Model_unwinds 63 = .ok (.goto 4, 3) := by decide +kernel
theorem d_Model_unwinds_66 : decode b_Model_unwinds 66 = .ok (.iconst 0, 1) := by decide +kernel
theorem d_Model_unwinds_67 : decode b_Model_unwinds 67 = .ok (.isub, 1) := by decide +kernel
theorem d_Model_unwinds_68 : decode b_Model_unwinds 68 = .ok (.putfield 125, 3) := by decide +kernel
theorem d_Model_unwinds_71 : decode b_Model_unwinds 71 = .ok (.aload_n 0, 1) := by decide +kernel
theorem d_Model_unwinds_72 : decode b_Model_unwinds 72 = .ok (.iload_n 2, 1) := by decide +kernel
theorem d_Model_unwinds_73 : decode b_Model_unwinds 73 = .ok (.invokevirtual 128, 3) := by decide +kernel
theorem d_Model_unwinds_76 : decode b_Model_unwinds 76 = .ok (.goto (-76), 3) := by decide +kernel
theorem d_Model_unwinds_79 : decode b_Model_unwinds 79 = .ok (.return_, 1) := by decide +kernel
section S_Model_unwinds
variable {p : Program} {l : Launch} {e : Env} {s : State} {m : MethodId} {args : Array Value} {below : List Frame} {meth : Method} {c : Code} {D : va_G} {cA : Nat → ClassId} {ad : Nat → Nat} {nC : Nat} {A : Nat → Prop} {τ : St}
noncomputable def F_Model_unwinds_67 (k0 : (St → Int32 → Option St)) (s0 : St) (v1 : Int32) (v2 : Int32) (t1 : Int32) (t2 : Int32) : Option St := (lt (up1 s0 0 28 (t1 - t2)) (fun s_7 => (ob1 (F_Model_puts s_7 v2) (fun s_8 => (k0 s_8 v1)))))
set_option maxHeartbeats 4000000 in
set_option maxRecDepth 100000 in
theorem q_Model_unwinds_67 (K : Fx p s m args meth c b_Model_unwinds 3 R_Model none) (k0 : (St → Int32 → Option St)) (hk0 : ∀ (H : Heap) (locs : List Loc) (ls : Array Slot) (s0 : St) (v1 : Int32), Wh D cA ad shM A s s0 H locs → lv_has ls 3 [(0, .ref (ad 0)), (1, .int v1)] → k0 s0 v1 = (some τ) → W p l e rm_Model_unwinds s m args below meth c H locs 0 0 (MQ below (QcV D cA ad shM A τ) args s 0 0 A) (F0 m 0 ls [])) : ∀ (H : Heap) (locs : List Loc) (ls : Array Slot) (s0 : St) (v1 : Int32) (v2 : Int32) (t1 : Int32) (t2 : Int32), Wh D cA ad shM A s s0 H locs → lv_has ls 3 [(0, .ref (ad 0)), (1, .int v1), (2, .int v2)] → F_Model_unwinds_67 k0 s0 v1 v2 t1 t2 = (some τ) → W p l e rm_Model_unwinds s m args below meth c H locs 0 0 (MQ below (QcV D cA ad shM A τ) args s 0 0 A) (F0 m 67 ls [.int t2, .int t1, .ref (ad 0)]) := by
  have hx := K.1.1; have hb := K.1.2.1
  intro H locs ls s0 v1 v2 t1 t2 hw hl hF
  unfold F_Model_unwinds_67 at hF
  refine lv_isub hx hb d_Model_unwinds_67 ?_
  refine r_putI K hw i_Model t_Model t_Model_ok n_Model sh_Model rfl 28 (by decide) w_1053 rfl rfl rfl rfl rfl d_Model_unwinds_68 (fun s_7 f_s_7 H locs hw => ?_)
  replace hF := ltN hF f_s_7
  refine lv_aload_n hx hb d_Model_unwinds_71 rfl (lv_at hl 0 rfl) ?_
  refine lv_iload_n hx hb d_Model_unwinds_72 rfl (lv_at hl 2 rfl) ?_
  obtain ⟨s_8, h_s_8, hF⟩ := ob1E hF
  refine r_callVV (As := [.int v2]) (rest := []) K hw hl.1 (c_Model_puts (l := l) (D := D) (cA := cA) (ad := ad) (s0 := s_7)   h_s_8) sh_Model rfl (tb_gV w_998 w_1000 w_33 w_80 w_1001) a_Model_puts ⟨rfl, rfl, Nat.le_of_ble_eq_true rfl, Nat.le_of_ble_eq_true rfl⟩ rfl rfl (Nat.le_of_ble_eq_true rfl) d_Model_unwinds_73 (fun H locs hw => ?_)
  refine lv_goto (tgt := 0) hx hb d_Model_unwinds_76 (by decide) ?_
  exact hk0 _ _ _ _ _  hw (lv_sub hl [0, 1] rfl) hF
noncomputable def F_Model_unwinds_62 (k0 : (St → Int32 → Option St)) (s0 : St) (v1 : Int32) (v2 : Int32) (t1 : Int32) : Option St := (F_Model_unwinds_67 k0 s0 v1 v2 t1 (1 : Int32))
set_option maxHeartbeats 4000000 in
set_option maxRecDepth 100000 in
theorem q_Model_unwinds_62 (K : Fx p s m args meth c b_Model_unwinds 3 R_Model none) (k0 : (St → Int32 → Option St)) (hk0 : ∀ (H : Heap) (locs : List Loc) (ls : Array Slot) (s0 : St) (v1 : Int32), Wh D cA ad shM A s s0 H locs → lv_has ls 3 [(0, .ref (ad 0)), (1, .int v1)] → k0 s0 v1 = (some τ) → W p l e rm_Model_unwinds s m args below meth c H locs 0 0 (MQ below (QcV D cA ad shM A τ) args s 0 0 A) (F0 m 0 ls [])) : ∀ (H : Heap) (locs : List Loc) (ls : Array Slot) (s0 : St) (v1 : Int32) (v2 : Int32) (t1 : Int32), Wh D cA ad shM A s s0 H locs → lv_has ls 3 [(0, .ref (ad 0)), (1, .int v1), (2, .int v2)] → F_Model_unwinds_62 k0 s0 v1 v2 t1 = (some τ) → W p l e rm_Model_unwinds s m args below meth c H locs 0 0 (MQ below (QcV D cA ad shM A τ) args s 0 0 A) (F0 m 62 ls [.int t1, .ref (ad 0)]) := by
  have hx := K.1.1; have hb := K.1.2.1
  intro H locs ls s0 v1 v2 t1 hw hl hF
  unfold F_Model_unwinds_62 at hF
  refine lv_iconst (v := 1) hx hb d_Model_unwinds_62 (by decide) ?_
  refine lv_goto (tgt := 67) hx hb d_Model_unwinds_63 (by decide) ?_
  exact q_Model_unwinds_67 K k0 hk0 _ _ _ _ _ _ _ _  hw (lv_sub hl [0, 1, 2] rfl) hF
noncomputable def F_Model_unwinds_0 : Nat → St → Int32 → Option St
  | 0, _, _ => none
  | n + 1, s0, v1 => (if (s0.1 0 27) ≤ 0 then (some s0) else (if inB ((s0.1 0 27) - (1 : Int32)) 200 = true then (if (F_Model_rank (s0.1 16 ((s0.1 0 27) - (1 : Int32)).toNatClampNeg)) < v1 then (some s0) else (lt (up1 s0 0 27 ((s0.1 0 27) - (1 : Int32))) (fun s_4 => (if inB (s_4.1 0 27) 200 = true then (if (s_4.1 16 (s_4.1 0 27).toNatClampNeg) = (13 : Int32) then (F_Model_unwinds_62 (fun z0 zv1 => F_Model_unwinds_0 n z0 zv1) s_4 v1 (s_4.1 16 (s_4.1 0 27).toNatClampNeg) (s_4.1 0 28)) else (if ¬ (s_4.1 16 (s_4.1 0 27).toNatClampNeg) = (19 : Int32) then (F_Model_unwinds_67 (fun z0 zv1 => F_Model_unwinds_0 n z0 zv1) s_4 v1 (s_4.1 16 (s_4.1 0 27).toNatClampNeg) (s_4.1 0 28) (0 : Int32)) else (F_Model_unwinds_62 (fun z0 zv1 => F_Model_unwinds_0 n z0 zv1) s_4 v1 (s_4.1 16 (s_4.1 0 27).toNatClampNeg) (s_4.1 0 28)))) else none)))) else none))
set_option maxHeartbeats 4000000 in
set_option maxRecDepth 100000 in
theorem q_Model_unwinds_0 (K : Fx p s m args meth c b_Model_unwinds 3 R_Model none)  : ∀ (n : Nat), ∀ (H : Heap) (locs : List Loc) (ls : Array Slot) (s0 : St) (v1 : Int32), Wh D cA ad shM A s s0 H locs → lv_has ls 3 [(0, .ref (ad 0)), (1, .int v1)] → F_Model_unwinds_0 n s0 v1 = (some τ) → W p l e rm_Model_unwinds s m args below meth c H locs 0 0 (MQ below (QcV D cA ad shM A τ) args s 0 0 A) (F0 m 0 ls []) := by
  have hx := K.1.1; have hb := K.1.2.1
  intro n
  induction n with
  | zero =>
    intro H locs ls s0 v1 hw hl hF
    exact absurd hF (by rw [F_Model_unwinds_0]; exact nofun)
  | succ n ih =>
    intro H locs ls s0 v1 hw hl hF
    rw [F_Model_unwinds_0] at hF
    refine lv_aload_n hx hb d_Model_unwinds_0 rfl (lv_at hl 0 rfl) ?_
    refine r_get (v := .int (s0.1 0 27)) K hw i_Model sh_Model rfl 27 (by decide) w_1052 rfl rfl rfl d_Model_unwinds_1 ?_
    refine lv_if_le (tgt := 79) hx hb d_Model_unwinds_4 (by decide) (fun c_1 => ?_) (fun c_1 => ?_)
    · replace hF := ifT hF c_1
      replace hF := sE1 hF
      subst hF
      exact r_vret K hw d_Model_unwinds_79
    · replace hF := ifF hF c_1
      refine lv_aload_n hx hb d_Model_unwinds_7 rfl (lv_at hl 0 rfl) ?_
      refine r_get (v := .ref (ad 16)) K hw i_Model sh_Model rfl 26 (by decide) w_1051 rfl rfl rfl d_Model_unwinds_8 ?_
      refine lv_aload_n hx hb d_Model_unwinds_11 rfl (lv_at hl 0 rfl) ?_
      refine r_get (v := .int (s0.1 0 27)) K hw i_Model sh_Model rfl 27 (by decide) w_1052 rfl rfl rfl d_Model_unwinds_12 ?_
      refine lv_iconst (v := 1) hx hb d_Model_unwinds_15 (by decide) ?_
      refine lv_isub hx hb d_Model_unwinds_16 ?_
      obtain ⟨g_2, hF⟩ := ifG hF
      refine r_iald (k := ((s0.1 0 27) - (1 : Int32)).toNatClampNeg) K hw (show shM[16]? = some (.inr (.inl 200)) from rfl) rfl (inB_vp g_2) d_Model_unwinds_17 ?_
      refine r_callSI (As := [.int (s0.1 16 ((s0.1 0 27) - (1 : Int32)).toNatClampNeg)]) (rest := []) K hw hl.1 (c_Model_rank (l := l) (D := D) (cA := cA) (ad := ad) (s0 := s0)   rfl) (tb_gS w_1006 w_1007 w_80 w_1008) a_Model_rank ⟨rfl, rfl, Nat.le_of_ble_eq_true rfl, Nat.le_of_ble_eq_true rfl⟩ rfl rfl (Nat.le_of_ble_eq_true rfl) d_Model_unwinds_18 (fun H locs hw => ?_)
      refine lv_iload_n hx hb d_Model_unwinds_21 rfl (lv_at hl 1 rfl) ?_
      refine lv_icmp_lt (tgt := 79) hx hb d_Model_unwinds_22 (by decide) (fun c_3 => ?_) (fun c_3 => ?_)
      · replace hF := ifT hF c_3
        replace hF := sE1 hF
        subst hF
        exact r_vret K hw d_Model_unwinds_79
      · replace hF := ifF hF c_3
        refine lv_aload_n hx hb d_Model_unwinds_25 rfl (lv_at hl 0 rfl) ?_
        refine lv_dup hx hb d_Model_unwinds_26 rfl ?_
        refine r_get (v := .int (s0.1 0 27)) K hw i_Model sh_Model rfl 27 (by decide) w_1052 rfl rfl rfl d_Model_unwinds_27 ?_
        refine lv_iconst (v := 1) hx hb d_Model_unwinds_30 (by decide) ?_
        refine lv_isub hx hb d_Model_unwinds_31 ?_
        refine r_putI K hw i_Model t_Model t_Model_ok n_Model sh_Model rfl 27 (by decide) w_1052 rfl rfl rfl rfl rfl d_Model_unwinds_32 (fun s_4 f_s_4 H locs hw => ?_)
        replace hF := ltN hF f_s_4
        refine lv_aload_n hx hb d_Model_unwinds_35 rfl (lv_at hl 0 rfl) ?_
        refine r_get (v := .ref (ad 16)) K hw i_Model sh_Model rfl 26 (by decide) w_1051 rfl rfl rfl d_Model_unwinds_36 ?_
        refine lv_aload_n hx hb d_Model_unwinds_39 rfl (lv_at hl 0 rfl) ?_
        refine r_get (v := .int (s_4.1 0 27)) K hw i_Model sh_Model rfl 27 (by decide) w_1052 rfl rfl rfl d_Model_unwinds_40 ?_
        obtain ⟨g_5, hF⟩ := ifG hF
        refine r_iald (k := (s_4.1 0 27).toNatClampNeg) K hw (show shM[16]? = some (.inr (.inl 200)) from rfl) rfl (inB_vp g_5) d_Model_unwinds_43 ?_
        refine lv_istore_n (lv' := [(2, .int (s_4.1 16 (s_4.1 0 27).toNatClampNeg)), (0, .ref (ad 0)), (1, .int v1)]) hx hb d_Model_unwinds_44 rfl hl (by decide) rfl (fun ls hl => ?_)
        refine lv_aload_n hx hb d_Model_unwinds_45 rfl (lv_at hl 1 rfl) ?_
        refine lv_dup hx hb d_Model_unwinds_46 rfl ?_
        refine r_get (v := .int (s_4.1 0 28)) K hw i_Model sh_Model rfl 28 (by decide) w_1053 rfl rfl rfl d_Model_unwinds_47 ?_
        refine lv_iload_n hx hb d_Model_unwinds_50 rfl (lv_at hl 0 rfl) ?_
        refine lv_bipush (v := 13) hx hb d_Model_unwinds_51 (by decide) ?_
        refine lv_icmp_eq (tgt := 62) hx hb d_Model_unwinds_53 (by decide) (fun c_6 => ?_) (fun c_6 => ?_)
        · replace hF := ifT hF c_6
          exact q_Model_unwinds_62 K (fun z0 zv1 => F_Model_unwinds_0 n z0 zv1) ih _ _ _ _ _ _ _  hw (lv_sub hl [1, 2, 0] rfl) hF
        · replace hF := ifF hF c_6
          refine lv_iload_n hx hb d_Model_unwinds_56 rfl (lv_at hl 0 rfl) ?_
          refine lv_bipush (v := 19) hx hb d_Model_unwinds_57 (by decide) ?_
          refine lv_icmp_ne (tgt := 66) hx hb d_Model_unwinds_59 (by decide) (fun c_9 => ?_) (fun c_9 => ?_)
          · replace hF := ifT hF c_9
            refine lv_iconst (v := 0) hx hb d_Model_unwinds_66 (by decide) ?_
            exact q_Model_unwinds_67 K (fun z0 zv1 => F_Model_unwinds_0 n z0 zv1) ih _ _ _ _ _ _ _ _  hw (lv_sub hl [1, 2, 0] rfl) hF
          · replace hF := ifN hF c_9
            exact q_Model_unwinds_62 K (fun z0 zv1 => F_Model_unwinds_0 n z0 zv1) ih _ _ _ _ _ _ _  hw (lv_sub hl [1, 2, 0] rfl) hF
end S_Model_unwinds
noncomputable abbrev F_Model_unwinds := F_Model_unwinds_0 FU
theorem c_Model_unwinds {l : Launch} {D : va_G} {cA : Nat → ClassId} {ad : Nat → Nat} {s0 τ : St} {v1 : Int32}  (hF : F_Model_unwinds s0 v1 = (some τ)) : MV l D cA ad shM y_Model_unwinds (wT y_Model_unwinds b_Model_unwinds 3 none) rm_Model_unwinds [.ref (ad 0), .int v1] s0 τ := fun sz => m_start (Qc := fun A => QcV D cA ad shM A τ) (by decide +kernel) w_1005 (Nat.le_of_ble_eq_true rfl) (fun p e s m below meth c ls K hl hw => q_Model_unwinds_0 K FU _ _ _ _ _  hw hl hF)

/-! Model.holds(I)V -/
abbrev b_Model_holds : ByteArray := prog_13_method_16_code
def y_Model_holds : MethodName := ⟨R_Model, "holds", "(I)V"⟩
theorem a_Model_holds : y_Model_holds.cls = R_Model ∧ y_Model_holds.cls ≠ "java/lang/invoke/MethodHandle" ∧ y_Model_holds.cls ≠ "java/lang/invoke/VarHandle" ∧ (parseMethodDescriptor y_Model_holds.desc).map (fun d => d.parameters.length) = some 1 := by decide +kernel
abbrev rm_Model_holds : Room := { frames := 0, cells := 0, slots := 0, locals := 0 }
theorem w_1016 : Cond.code y_Model_holds b_Model_holds 2 none ∈ TB := tb_in 1016 (by decide +kernel) (by decide +kernel)
theorem d_Model_holds_0 : decode b_Model_holds 0 = .ok (.aload_n 0, 1) := by decide +kernel
theorem d_Model_holds_1 : decode b_Model_holds 1 = .ok (.getfield 55, 3) := by decide +kernel
theorem d_Model_holds_4 : decode b_Model_holds 4 = .ok (.aload_n 0, 1) := by decide +kernel
theorem d_Model_holds_5 : decode b_Model_holds 5 = .ok (.getfield 118, 3) := by decide +kernel
theorem d_Model_holds_8 : decode b_Model_holds 8 = .ok (.iload_n 1, 1) := by decide +kernel
theorem d_Model_holds_9 : decode b_Model_holds 9 = .ok (.iastore, 1) := by decide +kernel
theorem d_Model_holds_10 : decode b_Model_holds 10 = .ok (.aload_n 0, 1) := by decide +kernel
theorem d_Model_holds_11 : decode b_Model_holds 11 = .ok (.dup, 1) := by decide +kernel
theorem d_Model_holds_12 : decode b_Model_holds 12 = .ok (.getfield 118, 3) := by decide +kernel
theorem d_Model_holds_15 : decode b_Model_holds 15 = .ok (.iconst 1, 1) := by decide +kernel
theorem d_Model_holds_16 : decode b_Model_holds 16 = .ok (.iadd, 1) := by decide +kernel
theorem d_Model_holds_17 : decode b_Model_holds 17 = .ok (.putfield 118, 3) := by decide +kernel
theorem d_Model_holds_20 : decode b_Model_holds 20 = .ok (.return_, 1) := by decide +kernel
section S_Model_holds
variable {p : Program} {l : Launch} {e : Env} {s : State} {m : MethodId} {args : Array Value} {below : List Frame} {meth : Method} {c : Code} {D : va_G} {cA : Nat → ClassId} {ad : Nat → Nat} {nC : Nat} {A : Nat → Prop} {τ : St}
noncomputable def F_Model_holds_0 (s0 : St) (v1 : Int32) : Option St := (if inB (s0.1 0 27) 200 = true then (lt (up1 s0 16 (s0.1 0 27).toNatClampNeg v1) (fun s_2 => (lt (up1 s_2 0 27 ((s_2.1 0 27) + (1 : Int32))) (fun s_3 => (some s_3))))) else none)
set_option maxHeartbeats 4000000 in
set_option maxRecDepth 100000 in
theorem q_Model_holds_0 (K : Fx p s m args meth c b_Model_holds 2 R_Model none)  : ∀ (H : Heap) (locs : List Loc) (ls : Array Slot) (s0 : St) (v1 : Int32), Wh D cA ad shM A s s0 H locs → lv_has ls 2 [(0, .ref (ad 0)), (1, .int v1)] → F_Model_holds_0 s0 v1 = (some τ) → W p l e rm_Model_holds s m args below meth c H locs 0 0 (MQ below (QcV D cA ad shM A τ) args s 0 0 A) (F0 m 0 ls []) := by
  have hx := K.1.1; have hb := K.1.2.1
  intro H locs ls s0 v1 hw hl hF
  unfold F_Model_holds_0 at hF
  refine lv_aload_n hx hb d_Model_holds_0 rfl (lv_at hl 0 rfl) ?_
  refine r_get (v := .ref (ad 16)) K hw i_Model sh_Model rfl 26 (by decide) w_1051 rfl rfl rfl d_Model_holds_1 ?_
  refine lv_aload_n hx hb d_Model_holds_4 rfl (lv_at hl 0 rfl) ?_
  refine r_get (v := .int (s0.1 0 27)) K hw i_Model sh_Model rfl 27 (by decide) w_1052 rfl rfl rfl d_Model_holds_5 ?_
  refine lv_iload_n hx hb d_Model_holds_8 rfl (lv_at hl 1 rfl) ?_
  obtain ⟨g_1, hF⟩ := ifG hF
  refine r_iast (k := (s0.1 0 27).toNatClampNeg) K hw (show shM[16]? = some (.inr (.inl 200)) from rfl) rfl (inB_vp g_1) d_Model_holds_9 (fun s_2 f_s_2 H locs hw => ?_)
  replace hF := ltN hF f_s_2
  refine lv_aload_n hx hb d_Model_holds_10 rfl (lv_at hl 0 rfl) ?_
  refine lv_dup hx hb d_Model_holds_11 rfl ?_
  refine r_get (v := .int (s_2.1 0 27)) K hw i_Model sh_Model rfl 27 (by decide) w_1052 rfl rfl rfl d_Model_holds_12 ?_
  refine lv_iconst (v := 1) hx hb d_Model_holds_15 (by decide) ?_
  refine lv_iadd hx hb d_Model_holds_16 ?_
  refine r_putI K hw i_Model t_Model t_Model_ok n_Model sh_Model rfl 27 (by decide) w_1052 rfl rfl rfl rfl rfl d_Model_holds_17 (fun s_3 f_s_3 H locs hw => ?_)
  replace hF := ltN hF f_s_3
  replace hF := sE1 hF
  subst hF
  exact r_vret K hw d_Model_holds_20
end S_Model_holds
noncomputable abbrev F_Model_holds := F_Model_holds_0
theorem c_Model_holds {l : Launch} {D : va_G} {cA : Nat → ClassId} {ad : Nat → Nat} {s0 τ : St} {v1 : Int32}  (hF : F_Model_holds s0 v1 = (some τ)) : MV l D cA ad shM y_Model_holds (wT y_Model_holds b_Model_holds 2 none) rm_Model_holds [.ref (ad 0), .int v1] s0 τ := fun sz => m_start (Qc := fun A => QcV D cA ad shM A τ) (by decide +kernel) w_1016 (Nat.le_of_ble_eq_true rfl) (fun p e s m below meth c ls K hl hw => q_Model_holds_0 K _ _ _ _ _  hw hl hF)

/-! Model.opensOne(I)Z -/
abbrev b_Model_opensOne : ByteArray := prog_13_method_17_code
def y_Model_opensOne : MethodName := ⟨R_Model, "opensOne", "(I)Z"⟩
theorem a_Model_opensOne : y_Model_opensOne.cls = R_Model ∧ y_Model_opensOne.cls ≠ "java/lang/invoke/MethodHandle" ∧ y_Model_opensOne.cls ≠ "java/lang/invoke/VarHandle" ∧ (parseMethodDescriptor y_Model_opensOne.desc).map (fun d => d.parameters.length) = some 1 := by decide +kernel
abbrev rm_Model_opensOne : Room := { frames := 1, cells := 0, slots := 0, locals := 21 }
theorem w_1013 : Cond.methodLink R_Model 132 y_Model_holds ∈ TB := tb_in 1013 (by decide +kernel) (by decide +kernel)
theorem w_1015 : Cond.instanceMethod y_Model_holds ∈ TB := tb_in 1015 (by decide +kernel) (by decide +kernel)
theorem w_36 : Cond.selects R_Model y_Model_holds y_Model_holds ∈ TB := tb_in 36 (by decide +kernel) (by decide +kernel)
theorem w_1012 : Cond.code y_Model_opensOne b_Model_opensOne 2 (some .boolean) ∈ TB := tb_in 1012 (by decide +kernel) (by decide +kernel)
theorem d_Model_opensOne_0 : decode b_Model_opensOne 0 = .ok (.aload_n 0, 1) := by decide +kernel
theorem d_Model_opensOne_1 : decode b_Model_opensOne 1 = .ok (.getfield 125, 3) := by decide +kernel
theorem d_Model_opensOne_4 : decode b_Model_opensOne 4 = .ok (.iconst 5, 1) := by decide +kernel
theorem d_Model_opensOne_5 : decode b_Model_opensOne 5 = .ok (.if_icmp .ne 5, 3) := by decide +kernel
theorem d_Model_opensOne_8 : decode b_Model_opensOne 8 = .ok (.iconst 0, 1) := by decide +kernel
theorem d_Model_opensOne_9 : decode b_Model_opensOne 9 = .ok (.ireturn, 1) := by decide +kernel
theorem d_Model_opensOne_10 : decode b_Model_opensOne 10 = .ok (.aload_n 0, 1) := by decide +kernel
theorem d_Model_opensOne_11 : decode b_Model_opensOne 11 = .ok (.dup, 1) := by decide +kernel
theorem d_Model_opensOne_12 : decode b_Model_opensOne 12 = .ok (.getfield 125, 3) := by decide +kernel
theorem d_Model_opensOne_15 : decode b_Model_opensOne 15 = .ok (.iconst 1, 1) := by decide +kernel
theorem d_Model_opensOne_16 : decode b_Model_opensOne 16 = .ok (.iadd, 1) := by decide +kernel
theorem d_Model_opensOne_17 : decode b_Model_opensOne 17 = .ok (.putfield 125, 3) := by decide +kernel
theorem d_Model_opensOne_20 : decode b_Model_opensOne 20 = .ok (.aload_n 0, 1) := by decide +kernel
theorem d_Model_opensOne_21 : decode b_Model_opensOne 21 = .ok (.iload_n 1, 1) := by decide +kernel
theorem d_Model_opensOne_22 : decode b_Model_opensOne 22 = .ok (.invokevirtual 132, 3) := by decide +kernel
theorem d_Model_opensOne_25 : decode b_Model_opensOne 25 = .ok (.iconst 1, 1) := by decide +kernel
theorem d_Model_opensOne_26 : decode b_Model_opensOne 26 = .ok (.ireturn, 1) := by decide +kernel
section S_Model_opensOne
variable {p : Program} {l : Launch} {e : Env} {s : State} {m : MethodId} {args : Array Value} {below : List Frame} {meth : Method} {c : Code} {D : va_G} {cA : Nat → ClassId} {ad : Nat → Nat} {nC : Nat} {A : Nat → Prop} {r : Int32} {τ : St}
noncomputable def F_Model_opensOne_0 (s0 : St) (v1 : Int32) : Option (Int32 × St) := (if ¬ (s0.1 0 28) = (5 : Int32) then (lt (up1 s0 0 28 ((s0.1 0 28) + (1 : Int32))) (fun s_2 => (ob1 (F_Model_holds s_2 v1) (fun s_3 => (some ((1 : Int32), s_3)))))) else (some ((0 : Int32), s0)))
set_option maxHeartbeats 4000000 in
set_option maxRecDepth 100000 in
theorem q_Model_opensOne_0 (K : Fx p s m args meth c b_Model_opensOne 2 R_Model (some .boolean))  : ∀ (H : Heap) (locs : List Loc) (ls : Array Slot) (s0 : St) (v1 : Int32), Wh D cA ad shM A s s0 H locs → lv_has ls 2 [(0, .ref (ad 0)), (1, .int v1)] → F_Model_opensOne_0 s0 v1 = (some (r, τ)) → W p l e rm_Model_opensOne s m args below meth c H locs 0 0 (MQ below (QcI D cA ad shM A r τ) args s 0 0 A) (F0 m 0 ls []) := by
  have hx := K.1.1; have hb := K.1.2.1
  intro H locs ls s0 v1 hw hl hF
  unfold F_Model_opensOne_0 at hF
  refine lv_aload_n hx hb d_Model_opensOne_0 rfl (lv_at hl 0 rfl) ?_
  refine r_get (v := .int (s0.1 0 28)) K hw i_Model sh_Model rfl 28 (by decide) w_1053 rfl rfl rfl d_Model_opensOne_1 ?_
  refine lv_iconst (v := 5) hx hb d_Model_opensOne_4 (by decide) ?_
  refine lv_icmp_ne (tgt := 10) hx hb d_Model_opensOne_5 (by decide) (fun c_1 => ?_) (fun c_1 => ?_)
  · replace hF := ifT hF c_1
    refine lv_aload_n hx hb d_Model_opensOne_10 rfl (lv_at hl 0 rfl) ?_
    refine lv_dup hx hb d_Model_opensOne_11 rfl ?_
    refine r_get (v := .int (s0.1 0 28)) K hw i_Model sh_Model rfl 28 (by decide) w_1053 rfl rfl rfl d_Model_opensOne_12 ?_
    refine lv_iconst (v := 1) hx hb d_Model_opensOne_15 (by decide) ?_
    refine lv_iadd hx hb d_Model_opensOne_16 ?_
    refine r_putI K hw i_Model t_Model t_Model_ok n_Model sh_Model rfl 28 (by decide) w_1053 rfl rfl rfl rfl rfl d_Model_opensOne_17 (fun s_2 f_s_2 H locs hw => ?_)
    replace hF := ltN hF f_s_2
    refine lv_aload_n hx hb d_Model_opensOne_20 rfl (lv_at hl 0 rfl) ?_
    refine lv_iload_n hx hb d_Model_opensOne_21 rfl (lv_at hl 1 rfl) ?_
    obtain ⟨s_3, h_s_3, hF⟩ := ob1E hF
    refine r_callVV (As := [.int v1]) (rest := []) K hw hl.1 (c_Model_holds (l := l) (D := D) (cA := cA) (ad := ad) (s0 := s_2)   h_s_3) sh_Model rfl (tb_gV w_1013 w_1015 w_36 w_80 w_1016) a_Model_holds ⟨rfl, rfl, Nat.le_of_ble_eq_true rfl, Nat.le_of_ble_eq_true rfl⟩ rfl rfl (Nat.le_of_ble_eq_true rfl) d_Model_opensOne_22 (fun H locs hw => ?_)
    refine lv_iconst (v := 1) hx hb d_Model_opensOne_25 (by decide) ?_
    obtain ⟨hF, hG⟩ := sE2 hF
    subst hF
    subst hG
    exact r_zret K hw (by decide) d_Model_opensOne_26
  · replace hF := ifN hF c_1
    refine lv_iconst (v := 0) hx hb d_Model_opensOne_8 (by decide) ?_
    obtain ⟨hF, hG⟩ := sE2 hF
    subst hF
    subst hG
    exact r_zret K hw (by decide) d_Model_opensOne_9
end S_Model_opensOne
noncomputable abbrev F_Model_opensOne := F_Model_opensOne_0
theorem c_Model_opensOne {l : Launch} {D : va_G} {cA : Nat → ClassId} {ad : Nat → Nat} {s0 τ : St} {r : Int32} {v1 : Int32}  (hF : F_Model_opensOne s0 v1 = (some (r, τ))) : MI l D cA ad shM y_Model_opensOne (wT y_Model_opensOne b_Model_opensOne 2 (some .boolean)) rm_Model_opensOne [.ref (ad 0), .int v1] s0 r τ := fun sz => m_start (Qc := fun A => QcI D cA ad shM A r τ) (by decide +kernel) w_1012 (Nat.le_of_ble_eq_true rfl) (fun p e s m below meth c ls K hl hw => q_Model_opensOne_0 K _ _ _ _ _  hw hl hF)

/-! Model.between(I)Z -/
abbrev b_Model_between : ByteArray := prog_13_method_18_code
def y_Model_between : MethodName := ⟨R_Model, "between", "(I)Z"⟩
theorem a_Model_between : y_Model_between.cls = R_Model ∧ y_Model_between.cls ≠ "java/lang/invoke/MethodHandle" ∧ y_Model_between.cls ≠ "java/lang/invoke/VarHandle" ∧ (parseMethodDescriptor y_Model_between.desc).map (fun d => d.parameters.length) = some 1 := by decide +kernel
abbrev rm_Model_between : Room := { frames := 2, cells := 0, slots := 0, locals := 43 }
theorem w_1002 : Cond.methodLink R_Model 135 y_Model_unwinds ∈ TB := tb_in 1002 (by decide +kernel) (by decide +kernel)
theorem w_1004 : Cond.instanceMethod y_Model_unwinds ∈ TB := tb_in 1004 (by decide +kernel) (by decide +kernel)
theorem w_34 : Cond.selects R_Model y_Model_unwinds y_Model_unwinds ∈ TB := tb_in 34 (by decide +kernel) (by decide +kernel)
theorem w_1024 : Cond.code y_Model_between b_Model_between 2 (some .boolean) ∈ TB := tb_in 1024 (by decide +kernel) (by decide +kernel)
theorem d_Model_between_0 : decode b_Model_between 0 = .ok (.aload_n 0, 1) := by decide +kernel
theorem d_Model_between_1 : decode b_Model_between 1 = .ok (.iload_n 1, 1) := by decide +kernel
theorem d_Model_between_2 : decode b_Model_between 2 = .ok (.invokestatic 121, 3) := by decide +kernel
theorem d_Model_between_5 : decode b_Model_between 5 = .ok (.iconst 4, 1) := by decide +kernel
theorem d_Model_between_6 : decode b_Model_between 6 = .ok (.if_icmp .ne 7, 3) := by decide +kernel
theorem d_Model_between_9 : decode b_Model_between 9 = .ok (.iconst 5, 1) := by decide +kernel
theorem d_Model_between_10 : decode b_Model_between 10 = .ok (.goto 7, 3) := by decide +kernel
theorem d_Model_between_13 : decode b_Model_between 13 = .ok (.iload_n 1, 1) := by decide +kernel
theorem d_Model_between_14 : decode b_Model_between 14 = .ok (.invokestatic 121, 3) := by decide +kernel
theorem d_Model_between_17 : decode b_Model_between 17 = .ok (.invokevirtual 135, 3) := by decide +kernel
theorem d_Model_between_20 : decode b_Model_between 20 = .ok (.iload_n 1, 1) := by decide +kernel
theorem d_Model_between_21 : decode b_Model_between 21 = .ok (.invokestatic 121, 3) := by decide +kernel
theorem d_Model_between_24 : decode b_Model_between 24 = .ok (.iconst 4, 1) := by decide +kernel
theorem d_Model_between_25 : decode b_Model_between 25 = .ok (.if_icmp .ne 30, 3) := by decide +kernel
theorem d_Model_between_28 : decode b_Model_between 28 = .ok (.aload_n 0, 1) := by decide +kernel
theorem d_Model_between_29 : decode b_Model_between 29 = .ok (.getfield 118, 3) := by decide +kernel
theorem d_Model_between_32 : decode b_Model_between 32 = .ok (.ifCond .le 23, 3) := by decide +kernel
theorem d_Model_between_35 : decode b_Model_between 35 = .ok (.aload_n 0, 1) := by decide +kernel
theorem d_Model_between_36 : decode b_Model_between 36 = .ok (.getfield 55, 3) := by decide +kernel
theorem d_Model_between_39 : decode b_Model_between 39 = .ok (.aload_n 0, 1) := by decide +kernel
theorem d_Model_between_40 : decode b_Model_between 40 = .ok (.getfield 118, 3) := by decide +kernel
theorem d_Model_between_43 : decode b_Model_between 43 = .ok (.iconst 1, 1) := by decide +kernel
theorem d_Model_between_44 : decode b_Model_between 44 = .ok (.isub, 1) := by decide +kernel
theorem d_Model_between_45 : decode b_Model_between 45 = .ok (.iaload, 1) := by decide +kernel
theorem d_Model_between_46 : decode b_Model_between 46 = .ok (.invokestatic 121, 3) := by decide +kernel
theorem d_Model_between_49 : decode b_Model_between 49 = .ok (.iconst 4, 1) := by decide +kernel
theorem d_Model_between_50 : decode b_Model_between 50 = .ok (.if_icmp .ne 5, 3) := by decide +kernel
theorem d_Model_between_53 : decode b_Model_between 53 = .ok (.iconst 0, 1) := by decide +kernel
theorem d_Model_between_54 : decode b_Model_between 54 = .ok (.ireturn, 1) := by decide +kernel
theorem d_Model_between_55 : decode b_Model_between 55 = .ok (.aload_n 0, 1) := by decide +kernel
theorem d_Model_between_56 : decode b_Model_between 56 = .ok (.iload_n 1, 1) := by decide +kernel
theorem d_Model_between_57 : decode b_Model_between 57 = .ok (.invokevirtual 132, 3) := by decide +kernel
theorem d_Model_between_60 : decode b_Model_between 60 = .ok (.iconst 1, 1) := by decide +kernel
theorem d_Model_between_61 : decode b_Model_between 61 = .ok (.ireturn, 1) := by decide +kernel
section S_Model_between
variable {p : Program} {l : Launch} {e : Env} {s : State} {m : MethodId} {args : Array Value} {below : List Frame} {meth : Method} {c : Code} {D : va_G} {cA : Nat → ClassId} {ad : Nat → Nat} {nC : Nat} {A : Nat → Prop} {r : Int32} {τ : St}
noncomputable def F_Model_between_55 (s0 : St) (v1 : Int32) : Option (Int32 × St) := (ob1 (F_Model_holds s0 v1) (fun s_4 => (some ((1 : Int32), s_4))))
set_option maxHeartbeats 4000000 in
set_option maxRecDepth 100000 in
theorem q_Model_between_55 (K : Fx p s m args meth c b_Model_between 2 R_Model (some .boolean))  : ∀ (H : Heap) (locs : List Loc) (ls : Array Slot) (s0 : St) (v1 : Int32), Wh D cA ad shM A s s0 H locs → lv_has ls 2 [(0, .ref (ad 0)), (1, .int v1)] → F_Model_between_55 s0 v1 = (some (r, τ)) → W p l e rm_Model_between s m args below meth c H locs 0 0 (MQ below (QcI D cA ad shM A r τ) args s 0 0 A) (F0 m 55 ls []) := by
  have hx := K.1.1; have hb := K.1.2.1
  intro H locs ls s0 v1 hw hl hF
  unfold F_Model_between_55 at hF
  refine lv_aload_n hx hb d_Model_between_55 rfl (lv_at hl 0 rfl) ?_
  refine lv_iload_n hx hb d_Model_between_56 rfl (lv_at hl 1 rfl) ?_
  obtain ⟨s_4, h_s_4, hF⟩ := ob1E hF
  refine r_callVV (As := [.int v1]) (rest := []) K hw hl.1 (c_Model_holds (l := l) (D := D) (cA := cA) (ad := ad) (s0 := s0)   h_s_4) sh_Model rfl (tb_gV w_1013 w_1015 w_36 w_80 w_1016) a_Model_holds ⟨rfl, rfl, Nat.le_of_ble_eq_true rfl, Nat.le_of_ble_eq_true rfl⟩ rfl rfl (Nat.le_of_ble_eq_true rfl) d_Model_between_57 (fun H locs hw => ?_)
  refine lv_iconst (v := 1) hx hb d_Model_between_60 (by decide) ?_
  obtain ⟨hF, hG⟩ := sE2 hF
  subst hF
  subst hG
  exact r_zret K hw (by decide) d_Model_between_61
noncomputable def F_Model_between_17 (s0 : St) (v1 : Int32) (t1 : Int32) : Option (Int32 × St) := (ob1 (F_Model_unwinds s0 t1) (fun s_2 => (if ¬ (F_Model_rank v1) = (4 : Int32) then (F_Model_between_55 s_2 v1) else (if (s_2.1 0 27) ≤ 0 then (F_Model_between_55 s_2 v1) else (if inB ((s_2.1 0 27) - (1 : Int32)) 200 = true then (if ¬ (F_Model_rank (s_2.1 16 ((s_2.1 0 27) - (1 : Int32)).toNatClampNeg)) = (4 : Int32) then (F_Model_between_55 s_2 v1) else (some ((0 : Int32), s_2))) else none)))))
set_option maxHeartbeats 4000000 in
set_option maxRecDepth 100000 in
theorem q_Model_between_17 (K : Fx p s m args meth c b_Model_between 2 R_Model (some .boolean))  : ∀ (H : Heap) (locs : List Loc) (ls : Array Slot) (s0 : St) (v1 : Int32) (t1 : Int32), Wh D cA ad shM A s s0 H locs → lv_has ls 2 [(0, .ref (ad 0)), (1, .int v1)] → F_Model_between_17 s0 v1 t1 = (some (r, τ)) → W p l e rm_Model_between s m args below meth c H locs 0 0 (MQ below (QcI D cA ad shM A r τ) args s 0 0 A) (F0 m 17 ls [.int t1, .ref (ad 0)]) := by
  have hx := K.1.1; have hb := K.1.2.1
  intro H locs ls s0 v1 t1 hw hl hF
  unfold F_Model_between_17 at hF
  obtain ⟨s_2, h_s_2, hF⟩ := ob1E hF
  refine r_callVV (As := [.int t1]) (rest := []) K hw hl.1 (c_Model_unwinds (l := l) (D := D) (cA := cA) (ad := ad) (s0 := s0)   h_s_2) sh_Model rfl (tb_gV w_1002 w_1004 w_34 w_80 w_1005) a_Model_unwinds ⟨rfl, rfl, Nat.le_of_ble_eq_true rfl, Nat.le_of_ble_eq_true rfl⟩ rfl rfl (Nat.le_of_ble_eq_true rfl) d_Model_between_17 (fun H locs hw => ?_)
  refine lv_iload_n hx hb d_Model_between_20 rfl (lv_at hl 1 rfl) ?_
  refine r_callSI (As := [.int v1]) (rest := []) K hw hl.1 (c_Model_rank (l := l) (D := D) (cA := cA) (ad := ad) (s0 := s_2)   rfl) (tb_gS w_1006 w_1007 w_80 w_1008) a_Model_rank ⟨rfl, rfl, Nat.le_of_ble_eq_true rfl, Nat.le_of_ble_eq_true rfl⟩ rfl rfl (Nat.le_of_ble_eq_true rfl) d_Model_between_21 (fun H locs hw => ?_)
  refine lv_iconst (v := 4) hx hb d_Model_between_24 (by decide) ?_
  refine lv_icmp_ne (tgt := 55) hx hb d_Model_between_25 (by decide) (fun c_3 => ?_) (fun c_3 => ?_)
  · replace hF := ifT hF c_3
    exact q_Model_between_55 K _ _ _ _ _  hw (lv_sub hl [0, 1] rfl) hF
  · replace hF := ifN hF c_3
    refine lv_aload_n hx hb d_Model_between_28 rfl (lv_at hl 0 rfl) ?_
    refine r_get (v := .int (s_2.1 0 27)) K hw i_Model sh_Model rfl 27 (by decide) w_1052 rfl rfl rfl d_Model_between_29 ?_
    refine lv_if_le (tgt := 55) hx hb d_Model_between_32 (by decide) (fun c_5 => ?_) (fun c_5 => ?_)
    · replace hF := ifT hF c_5
      exact q_Model_between_55 K _ _ _ _ _  hw (lv_sub hl [0, 1] rfl) hF
    · replace hF := ifF hF c_5
      refine lv_aload_n hx hb d_Model_between_35 rfl (lv_at hl 0 rfl) ?_
      refine r_get (v := .ref (ad 16)) K hw i_Model sh_Model rfl 26 (by decide) w_1051 rfl rfl rfl d_Model_between_36 ?_
      refine lv_aload_n hx hb d_Model_between_39 rfl (lv_at hl 0 rfl) ?_
      refine r_get (v := .int (s_2.1 0 27)) K hw i_Model sh_Model rfl 27 (by decide) w_1052 rfl rfl rfl d_Model_between_40 ?_
      refine lv_iconst (v := 1) hx hb d_Model_between_43 (by decide) ?_
      refine lv_isub hx hb d_Model_between_44 ?_
      obtain ⟨g_6, hF⟩ := ifG hF
      refine r_iald (k := ((s_2.1 0 27) - (1 : Int32)).toNatClampNeg) K hw (show shM[16]? = some (.inr (.inl 200)) from rfl) rfl (inB_vp g_6) d_Model_between_45 ?_
      refine r_callSI (As := [.int (s_2.1 16 ((s_2.1 0 27) - (1 : Int32)).toNatClampNeg)]) (rest := []) K hw hl.1 (c_Model_rank (l := l) (D := D) (cA := cA) (ad := ad) (s0 := s_2)   rfl) (tb_gS w_1006 w_1007 w_80 w_1008) a_Model_rank ⟨rfl, rfl, Nat.le_of_ble_eq_true rfl, Nat.le_of_ble_eq_true rfl⟩ rfl rfl (Nat.le_of_ble_eq_true rfl) d_Model_between_46 (fun H locs hw => ?_)
      refine lv_iconst (v := 4) hx hb d_Model_between_49 (by decide) ?_
      refine lv_icmp_ne (tgt := 55) hx hb d_Model_between_50 (by decide) (fun c_7 => ?_) (fun c_7 => ?_)
      · replace hF := ifT hF c_7
        exact q_Model_between_55 K _ _ _ _ _  hw (lv_sub hl [0, 1] rfl) hF
      · replace hF := ifN hF c_7
        refine lv_iconst (v := 0) hx hb d_Model_between_53 (by decide) ?_
        obtain ⟨hF, hG⟩ := sE2 hF
        subst hF
        subst hG
        exact r_zret K hw (by decide) d_Model_between_54
noncomputable def F_Model_between_0 (s0 : St) (v1 : Int32) : Option (Int32 × St) := (if ¬ (F_Model_rank v1) = (4 : Int32) then (F_Model_between_17 s0 v1 (F_Model_rank v1)) else (F_Model_between_17 s0 v1 (5 : Int32)))
set_option maxHeartbeats 4000000 in
set_option maxRecDepth 100000 in
theorem q_Model_between_0 (K : Fx p s m args meth c b_Model_between 2 R_Model (some .boolean))  : ∀ (H : Heap) (locs : List Loc) (ls : Array Slot) (s0 : St) (v1 : Int32), Wh D cA ad shM A s s0 H locs → lv_has ls 2 [(0, .ref (ad 0)), (1, .int v1)] → F_Model_between_0 s0 v1 = (some (r, τ)) → W p l e rm_Model_between s m args below meth c H locs 0 0 (MQ below (QcI D cA ad shM A r τ) args s 0 0 A) (F0 m 0 ls []) := by
  have hx := K.1.1; have hb := K.1.2.1
  intro H locs ls s0 v1 hw hl hF
  unfold F_Model_between_0 at hF
  refine lv_aload_n hx hb d_Model_between_0 rfl (lv_at hl 0 rfl) ?_
  refine lv_iload_n hx hb d_Model_between_1 rfl (lv_at hl 1 rfl) ?_
  refine r_callSI (As := [.int v1]) (rest := [.ref (ad 0)]) K hw hl.1 (c_Model_rank (l := l) (D := D) (cA := cA) (ad := ad) (s0 := s0)   rfl) (tb_gS w_1006 w_1007 w_80 w_1008) a_Model_rank ⟨rfl, rfl, Nat.le_of_ble_eq_true rfl, Nat.le_of_ble_eq_true rfl⟩ rfl rfl (Nat.le_of_ble_eq_true rfl) d_Model_between_2 (fun H locs hw => ?_)
  refine lv_iconst (v := 4) hx hb d_Model_between_5 (by decide) ?_
  refine lv_icmp_ne (tgt := 13) hx hb d_Model_between_6 (by decide) (fun c_1 => ?_) (fun c_1 => ?_)
  · replace hF := ifT hF c_1
    refine lv_iload_n hx hb d_Model_between_13 rfl (lv_at hl 1 rfl) ?_
    refine r_callSI (As := [.int v1]) (rest := [.ref (ad 0)]) K hw hl.1 (c_Model_rank (l := l) (D := D) (cA := cA) (ad := ad) (s0 := s0)   rfl) (tb_gS w_1006 w_1007 w_80 w_1008) a_Model_rank ⟨rfl, rfl, Nat.le_of_ble_eq_true rfl, Nat.le_of_ble_eq_true rfl⟩ rfl rfl (Nat.le_of_ble_eq_true rfl) d_Model_between_14 (fun H locs hw => ?_)
    exact q_Model_between_17 K _ _ _ _ _ _  hw (lv_sub hl [0, 1] rfl) hF
  · replace hF := ifN hF c_1
    refine lv_iconst (v := 5) hx hb d_Model_between_9 (by decide) ?_
    refine lv_goto (tgt := 17) hx hb d_Model_between_10 (by decide) ?_
    exact q_Model_between_17 K _ _ _ _ _ _  hw (lv_sub hl [0, 1] rfl) hF
end S_Model_between
noncomputable abbrev F_Model_between := F_Model_between_0
theorem c_Model_between {l : Launch} {D : va_G} {cA : Nat → ClassId} {ad : Nat → Nat} {s0 τ : St} {r : Int32} {v1 : Int32}  (hF : F_Model_between s0 v1 = (some (r, τ))) : MI l D cA ad shM y_Model_between (wT y_Model_between b_Model_between 2 (some .boolean)) rm_Model_between [.ref (ad 0), .int v1] s0 r τ := fun sz => m_start (Qc := fun A => QcI D cA ad shM A r τ) (by decide +kernel) w_1024 (Nat.le_of_ble_eq_true rfl) (fun p e s m below meth c ls K hl hw => q_Model_between_0 K _ _ _ _ _  hw hl hF)

/-! Model.signOf()I -/
abbrev b_Model_signOf : ByteArray := prog_13_method_19_code
def y_Model_signOf : MethodName := ⟨R_Model, "signOf", "()I"⟩
theorem a_Model_signOf : y_Model_signOf.cls = R_Model ∧ y_Model_signOf.cls ≠ "java/lang/invoke/MethodHandle" ∧ y_Model_signOf.cls ≠ "java/lang/invoke/VarHandle" ∧ (parseMethodDescriptor y_Model_signOf.desc).map (fun d => d.parameters.length) = some 0 := by decide +kernel
abbrev rm_Model_signOf : Room := { frames := 0, cells := 0, slots := 0, locals := 0 }
theorem w_1020 : Cond.code y_Model_signOf b_Model_signOf 1 (some .int) ∈ TB := tb_in 1020 (by decide +kernel) (by decide +kernel)
theorem d_Model_signOf_0 : decode b_Model_signOf 0 = .ok (.aload_n 0, 1) := by decide +kernel
theorem d_Model_signOf_1 : decode b_Model_signOf 1 = .ok (.getfield 105, 3) := by decide +kernel
theorem d_Model_signOf_4 : decode b_Model_signOf 4 = .ok (.iconst 4, 1) := by decide +kernel
theorem d_Model_signOf_5 : decode b_Model_signOf 5 = .ok (.if_icmp .ne 8, 3) := by decide +kernel
theorem d_Model_signOf_8 : decode b_Model_signOf 8 = .ok (.bipush 11, 2) := by decide +kernel
theorem d_Model_signOf_10 : decode b_Model_signOf 10 = .ok (.goto 87, 3) := by decide +kernel
theorem d_Model_signOf_13 : decode b_Model_signOf 13 = .ok (.aload_n 0, 1) := by decide +kernel
theorem d_Model_signOf_14 : decode b_Model_signOf 14 = .ok (.getfield 105, 3) := by decide +kernel
theorem d_Model_signOf_17 : decode b_Model_signOf 17 = .ok (.iconst 5, 1) := by decide +kernel
theorem d_Model_signOf_18 : decode b_Model_signOf 18 = .ok (.if_icmp .ne 8, 3) := by decide +kernel
theorem d_Model_signOf_21 : decode b_Model_signOf 21 = .ok (.bipush 12, 2) := by decide +kernel
theorem d_Model_signOf_23 : decode b_Model_signOf 23 = .ok (.goto 74, 3) := by decide +kernel
theorem d_Model_signOf_26 : decode b_Model_signOf 26 = .ok (.aload_n 0, 1) := by decide +kernel
theorem d_Model_signOf_27 : decode b_Model_signOf 27 = .ok (.getfield 105, 3) := by decide +kernel
theorem d_Model_signOf_30 : decode b_Model_signOf 30 = .ok (.bipush 60, 2) := by decide +kernel
theorem d_Model_signOf_32 : decode b_Model_signOf 32 = .ok (.if_icmp .ne 8, 3) := by decide +kernel
theorem d_Model_signOf_35 : decode b_Model_signOf 35 = .ok (.bipush 14, 2) := by decide +kernel
theorem d_Model_signOf_37 : decode b_Model_signOf 37 = .ok (.goto 60, 3) := by decide +kernel
theorem d_Model_signOf_40 : decode b_Model_signOf 40 = .ok (.aload_n 0, 1) := by decide +kernel
theorem d_Model_signOf_41 : decode b_Model_signOf 41 = .ok (.getfield 105, 3) := by decide +kernel
theorem d_Model_signOf_44 : decode b_Model_signOf 44 = .ok (.bipush 61, 2) := by decide +kernel
theorem d_Model_signOf_46 : decode b_Model_signOf 46 = .ok (.if_icmp .ne 8, 3) := by decide +kernel
theorem d_Model_signOf_49 : decode b_Model_signOf 49 = .ok (.bipush 15, 2) := by decide +kernel
theorem d_Model_signOf_51 : decode b_Model_signOf 51 = .ok (.goto 46, 3) := by decide +kernel
theorem d_Model_signOf_54 : decode b_Model_signOf 54 = .ok (.aload_n 0, 1) := by decide +kernel
theorem d_Model_signOf_55 : decode b_Model_signOf 55 = .ok (.getfield 105, 3) := by decide +kernel
theorem d_Model_signOf_58 : decode b_Model_signOf 58 = .ok (.bipush 43, 2) := by decide +kernel
theorem d_Model_signOf_60 : decode b_Model_signOf 60 = .ok (.if_icmp .ne 8, 3) := by decide +kernel
theorem d_Model_signOf_63 : decode b_Model_signOf 63 = .ok (.bipush 16, 2) := by decide +kernel
theorem d_Model_signOf_65 : decode b_Model_signOf 65 = .ok (.goto 32, 3) := by decide +kernel
theorem d_Model_signOf_68 : decode b_Model_signOf 68 = .ok (.aload_n 0, 1) := by decide +kernel
theorem d_Model_signOf_69 : decode b_Model_signOf 69 = .ok (.getfield 105, 3) := by decide +kernel
theorem d_Model_signOf_72 : decode b_Model_signOf 72 = .ok (.bipush 45, 2) := by decide +kernel
theorem d_Model_signOf_74 : decode b_Model_signOf 74 = .ok (.if_icmp .ne 8, 3) := by decide +kernel
theorem d_Model_signOf_77 : decode b_Model_signOf 77 = .ok (.bipush 17, 2) := by decide +kernel
theorem d_Model_signOf_79 : decode b_Model_signOf 79 = .ok (.goto 18, 3) := by decide +kernel
theorem d_Model_signOf_82 : decode b_Model_signOf 82 = .ok (.aload_n 0, 1) := by decide +kernel
theorem d_Model_signOf_83 : decode b_Model_signOf 83 = .ok (.getfield 105, 3) := by decide +kernel
theorem d_Model_signOf_86 : decode b_Model_signOf 86 = .ok (.bipush 42, 2) := by decide +kernel
theorem d_Model_signOf_88 : decode b_Model_signOf 88 = .ok (.if_icmp .ne 8, 3) := by decide +kernel
theorem d_Model_signOf_91 : decode b_Model_signOf 91 = .ok (.bipush 18, 2) := by decide +kernel
theorem d_Model_signOf_93 : decode b_Model_signOf 93 = .ok (.goto 4, 3) := by decide +kernel
theorem d_Model_signOf_96 : decode b_Model_signOf 96 = .ok (.iconst (-1), 1) := by decide +kernel
theorem d_Model_signOf_97 : decode b_Model_signOf 97 = .ok (.ireturn, 1) := by decide +kernel
section S_Model_signOf
variable {p : Program} {l : Launch} {e : Env} {s : State} {m : MethodId} {args : Array Value} {below : List Frame} {meth : Method} {c : Code} {D : va_G} {cA : Nat → ClassId} {ad : Nat → Nat} {nC : Nat} {A : Nat → Prop} {r : Int32} {τ : St}
noncomputable def F_Model_signOf_0 (s0 : St) : Int32 := (if ¬ (s0.1 0 23) = (4 : Int32) then (if ¬ (s0.1 0 23) = (5 : Int32) then (if ¬ (s0.1 0 23) = (60 : Int32) then (if ¬ (s0.1 0 23) = (61 : Int32) then (if ¬ (s0.1 0 23) = (43 : Int32) then (if ¬ (s0.1 0 23) = (45 : Int32) then (if ¬ (s0.1 0 23) = (42 : Int32) then (-1 : Int32) else (18 : Int32)) else (17 : Int32)) else (16 : Int32)) else (15 : Int32)) else (14 : Int32)) else (12 : Int32)) else (11 : Int32))
set_option maxHeartbeats 4000000 in
set_option maxRecDepth 100000 in
theorem q_Model_signOf_0 (s0 : St) (K : Fx p s m args meth c b_Model_signOf 1 R_Model (some .int))  : ∀ (H : Heap) (locs : List Loc) (ls : Array Slot), Wh D cA ad shM A s s0 H locs → lv_has ls 1 [(0, .ref (ad 0))] → F_Model_signOf_0 s0  = r → W p l e rm_Model_signOf s m args below meth c H locs 0 0 (MQ below (QcI D cA ad shM A r s0) args s 0 0 A) (F0 m 0 ls []) := by
  have hx := K.1.1; have hb := K.1.2.1
  intro H locs ls  hw hl hF
  unfold F_Model_signOf_0 at hF
  refine lv_aload_n hx hb d_Model_signOf_0 rfl (lv_at hl 0 rfl) ?_
  refine r_get (v := .int (s0.1 0 23)) K hw i_Model sh_Model rfl 23 (by decide) w_1048 rfl rfl rfl d_Model_signOf_1 ?_
  refine lv_iconst (v := 4) hx hb d_Model_signOf_4 (by decide) ?_
  refine lv_icmp_ne (tgt := 13) hx hb d_Model_signOf_5 (by decide) (fun c_1 => ?_) (fun c_1 => ?_)
  · replace hF := ifT hF c_1
    refine lv_aload_n hx hb d_Model_signOf_13 rfl (lv_at hl 0 rfl) ?_
    refine r_get (v := .int (s0.1 0 23)) K hw i_Model sh_Model rfl 23 (by decide) w_1048 rfl rfl rfl d_Model_signOf_14 ?_
    refine lv_iconst (v := 5) hx hb d_Model_signOf_17 (by decide) ?_
    refine lv_icmp_ne (tgt := 26) hx hb d_Model_signOf_18 (by decide) (fun c_2 => ?_) (fun c_2 => ?_)
    · replace hF := ifT hF c_2
      refine lv_aload_n hx hb d_Model_signOf_26 rfl (lv_at hl 0 rfl) ?_
      refine r_get (v := .int (s0.1 0 23)) K hw i_Model sh_Model rfl 23 (by decide) w_1048 rfl rfl rfl d_Model_signOf_27 ?_
      refine lv_bipush (v := 60) hx hb d_Model_signOf_30 (by decide) ?_
      refine lv_icmp_ne (tgt := 40) hx hb d_Model_signOf_32 (by decide) (fun c_3 => ?_) (fun c_3 => ?_)
      · replace hF := ifT hF c_3
        refine lv_aload_n hx hb d_Model_signOf_40 rfl (lv_at hl 0 rfl) ?_
        refine r_get (v := .int (s0.1 0 23)) K hw i_Model sh_Model rfl 23 (by decide) w_1048 rfl rfl rfl d_Model_signOf_41 ?_
        refine lv_bipush (v := 61) hx hb d_Model_signOf_44 (by decide) ?_
        refine lv_icmp_ne (tgt := 54) hx hb d_Model_signOf_46 (by decide) (fun c_4 => ?_) (fun c_4 => ?_)
        · replace hF := ifT hF c_4
          refine lv_aload_n hx hb d_Model_signOf_54 rfl (lv_at hl 0 rfl) ?_
          refine r_get (v := .int (s0.1 0 23)) K hw i_Model sh_Model rfl 23 (by decide) w_1048 rfl rfl rfl d_Model_signOf_55 ?_
          refine lv_bipush (v := 43) hx hb d_Model_signOf_58 (by decide) ?_
          refine lv_icmp_ne (tgt := 68) hx hb d_Model_signOf_60 (by decide) (fun c_5 => ?_) (fun c_5 => ?_)
          · replace hF := ifT hF c_5
            refine lv_aload_n hx hb d_Model_signOf_68 rfl (lv_at hl 0 rfl) ?_
            refine r_get (v := .int (s0.1 0 23)) K hw i_Model sh_Model rfl 23 (by decide) w_1048 rfl rfl rfl d_Model_signOf_69 ?_
            refine lv_bipush (v := 45) hx hb d_Model_signOf_72 (by decide) ?_
            refine lv_icmp_ne (tgt := 82) hx hb d_Model_signOf_74 (by decide) (fun c_6 => ?_) (fun c_6 => ?_)
            · replace hF := ifT hF c_6
              refine lv_aload_n hx hb d_Model_signOf_82 rfl (lv_at hl 0 rfl) ?_
              refine r_get (v := .int (s0.1 0 23)) K hw i_Model sh_Model rfl 23 (by decide) w_1048 rfl rfl rfl d_Model_signOf_83 ?_
              refine lv_bipush (v := 42) hx hb d_Model_signOf_86 (by decide) ?_
              refine lv_icmp_ne (tgt := 96) hx hb d_Model_signOf_88 (by decide) (fun c_7 => ?_) (fun c_7 => ?_)
              · replace hF := ifT hF c_7
                refine lv_iconst (v := -1) hx hb d_Model_signOf_96 (by decide) ?_
                subst hF
                exact r_iret K hw d_Model_signOf_97
              · replace hF := ifN hF c_7
                refine lv_bipush (v := 18) hx hb d_Model_signOf_91 (by decide) ?_
                refine lv_goto (tgt := 97) hx hb d_Model_signOf_93 (by decide) ?_
                subst hF
                exact r_iret K hw d_Model_signOf_97
            · replace hF := ifN hF c_6
              refine lv_bipush (v := 17) hx hb d_Model_signOf_77 (by decide) ?_
              refine lv_goto (tgt := 97) hx hb d_Model_signOf_79 (by decide) ?_
              subst hF
              exact r_iret K hw d_Model_signOf_97
          · replace hF := ifN hF c_5
            refine lv_bipush (v := 16) hx hb d_Model_signOf_63 (by decide) ?_
            refine lv_goto (tgt := 97) hx hb d_Model_signOf_65 (by decide) ?_
            subst hF
            exact r_iret K hw d_Model_signOf_97
        · replace hF := ifN hF c_4
          refine lv_bipush (v := 15) hx hb d_Model_signOf_49 (by decide) ?_
          refine lv_goto (tgt := 97) hx hb d_Model_signOf_51 (by decide) ?_
          subst hF
          exact r_iret K hw d_Model_signOf_97
      · replace hF := ifN hF c_3
        refine lv_bipush (v := 14) hx hb d_Model_signOf_35 (by decide) ?_
        refine lv_goto (tgt := 97) hx hb d_Model_signOf_37 (by decide) ?_
        subst hF
        exact r_iret K hw d_Model_signOf_97
    · replace hF := ifN hF c_2
      refine lv_bipush (v := 12) hx hb d_Model_signOf_21 (by decide) ?_
      refine lv_goto (tgt := 97) hx hb d_Model_signOf_23 (by decide) ?_
      subst hF
      exact r_iret K hw d_Model_signOf_97
  · replace hF := ifN hF c_1
    refine lv_bipush (v := 11) hx hb d_Model_signOf_8 (by decide) ?_
    refine lv_goto (tgt := 97) hx hb d_Model_signOf_10 (by decide) ?_
    subst hF
    exact r_iret K hw d_Model_signOf_97
end S_Model_signOf
noncomputable abbrev F_Model_signOf := F_Model_signOf_0
theorem c_Model_signOf {l : Launch} {D : va_G} {cA : Nat → ClassId} {ad : Nat → Nat} {s0 : St} {r : Int32}   (hF : F_Model_signOf s0 = r) : MI l D cA ad shM y_Model_signOf (wT y_Model_signOf b_Model_signOf 1 (some .int)) rm_Model_signOf [.ref (ad 0)] s0 r s0 := fun sz => m_start (Qc := fun A => QcI D cA ad shM A r s0) (by decide +kernel) w_1020 (Nat.le_of_ble_eq_true rfl) (fun p e s m below meth c ls K hl hw => q_Model_signOf_0 s0 K _ _ _   hw hl hF)
