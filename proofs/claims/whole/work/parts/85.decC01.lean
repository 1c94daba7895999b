/-! decode rows -/
abbrev b_Main_init : ByteArray := prog_1_method_1_code
theorem d_Main_init_0 : decode b_Main_init 0 = .ok (.aload_n 0, 1) := by decide +kernel
theorem d_Main_init_1 : decode b_Main_init 1 = .ok (.invokespecial 3, 3) := by decide +kernel
theorem d_Main_init_4 : decode b_Main_init 4 = .ok (.aload_n 0, 1) := by decide +kernel
theorem d_Main_init_5 : decode b_Main_init 5 = .ok (.bipush 6, 2) := by decide +kernel
theorem d_Main_init_7 : decode b_Main_init 7 = .ok (.anewarray 9, 3) := by decide +kernel
theorem d_Main_init_10 : decode b_Main_init 10 = .ok (.putfield 11, 3) := by decide +kernel
theorem d_Main_init_13 : decode b_Main_init 13 = .ok (.aload_n 0, 1) := by decide +kernel
theorem d_Main_init_14 : decode b_Main_init 14 = .ok (.bipush 6, 2) := by decide +kernel
theorem d_Main_init_16 : decode b_Main_init 16 = .ok (.anewarray 15, 3) := by decide +kernel
theorem d_Main_init_19 : decode b_Main_init 19 = .ok (.putfield 17, 3) := by decide +kernel
theorem d_Main_init_22 : decode b_Main_init 22 = .ok (.aload_n 0, 1) := by decide +kernel
theorem d_Main_init_23 : decode b_Main_init 23 = .ok (.new 21, 3) := by decide +kernel
theorem d_Main_init_26 : decode b_Main_init 26 = .ok (.dup, 1) := by decide +kernel
theorem d_Main_init_27 : decode b_Main_init 27 = .ok (.invokespecial 23, 3) := by decide +kernel
theorem d_Main_init_30 : decode b_Main_init 30 = .ok (.putfield 24, 3) := by decide +kernel
theorem d_Main_init_33 : decode b_Main_init 33 = .ok (.aload_n 0, 1) := by decide +kernel
theorem d_Main_init_34 : decode b_Main_init 34 = .ok (.iconst 4, 1) := by decide +kernel
theorem d_Main_init_35 : decode b_Main_init 35 = .ok (.anewarray 28, 3) := by decide +kernel
theorem d_Main_init_38 : decode b_Main_init 38 = .ok (.putfield 30, 3) := by decide +kernel
theorem d_Main_init_41 : decode b_Main_init 41 = .ok (.aload_n 0, 1) := by decide +kernel
theorem d_Main_init_42 : decode b_Main_init 42 = .ok (.new 34, 3) := by decide +kernel
theorem d_Main_init_45 : decode b_Main_init 45 = .ok (.dup, 1) := by decide +kernel
theorem d_Main_init_46 : decode b_Main_init 46 = .ok (.invokespecial 36, 3) := by decide +kernel
theorem d_Main_init_49 : decode b_Main_init 49 = .ok (.putfield 37, 3) := by decide +kernel
theorem d_Main_init_52 : decode b_Main_init 52 = .ok (.iconst 0, 1) := by decide +kernel
theorem d_Main_init_53 : decode b_Main_init 53 = .ok (.istore_n 1, 1) := by decide +kernel
theorem d_Main_init_54 : decode b_Main_init 54 = .ok (.iload_n 1, 1) := by decide +kernel
theorem d_Main_init_55 : decode b_Main_init 55 = .ok (.bipush 6, 2) := by decide +kernel
theorem d_Main_init_57 : decode b_Main_init 57 = .ok (.if_icmp .ge 22, 3) := by decide +kernel
theorem d_Main_init_60 : decode b_Main_init 60 = .ok (.aload_n 0, 1) := by decide +kernel
theorem d_Main_init_61 : decode b_Main_init 61 = .ok (.getfield 11, 3) := by decide +kernel
theorem d_Main_init_64 : decode b_Main_init 64 = .ok (.iload_n 1, 1) := by decide +kernel
theorem d_Main_init_65 : decode b_Main_init 65 = .ok (.new 9, 3) := by decide +kernel
theorem d_Main_init_68 : decode b_Main_init 68 = .ok (.dup, 1) := by decide +kernel
theorem d_Main_init_69 : decode b_Main_init 69 = .ok (.invokespecial 41, 3) := by decide +kernel
theorem d_Main_init_72 : decode b_Main_init 72 = .ok (.aastore, 1) := by decide +kernel
theorem d_Main_init_73 : decode b_Main_init 73 = .ok (.iinc 1 1, 3) := by decide +kernel
theorem d_Main_init_76 : decode b_Main_init 76 = .ok (.goto (-22), 3) := by decide +kernel
theorem d_Main_init_79 : decode b_Main_init 79 = .ok (.iconst 0, 1) := by decide +kernel
theorem d_Main_init_80 : decode b_Main_init 80 = .ok (.istore_n 1, 1) := by decide +kernel
theorem d_Main_init_81 : decode b_Main_init 81 = .ok (.iload_n 1, 1) := by decide +kernel
theorem d_Main_init_82 : decode b_Main_init 82 = .ok (.iconst 4, 1) := by decide +kernel
theorem d_Main_init_83 : decode b_Main_init 83 = .ok (.if_icmp .ge 22, 3) := by decide +kernel
theorem d_Main_init_86 : decode b_Main_init 86 = .ok (.aload_n 0, 1) := by decide +kernel
theorem d_Main_init_87 : decode b_Main_init 87 = .ok (.getfield 30, 3) := by decide +kernel
theorem d_Main_init_90 : decode b_Main_init 90 = .ok (.iload_n 1, 1) := by decide +kernel
theorem d_Main_init_91 : decode b_Main_init 91 = .ok (.new 28, 3) := by decide +kernel
theorem d_Main_init_94 : decode b_Main_init 94 = .ok (.dup, 1) := by decide +kernel
theorem d_Main_init_95 : decode b_Main_init 95 = .ok (.invokespecial 42, 3) := by decide +kernel
theorem d_Main_init_98 : decode b_Main_init 98 = .ok (.aastore, 1) := by decide +kernel
theorem d_Main_init_99 : decode b_Main_init 99 = .ok (.iinc 1 1, 3) := by decide +kernel
theorem d_Main_init_102 : decode b_Main_init 102 = .ok (.goto (-21), 3) := by decide +kernel
theorem d_Main_init_105 : decode b_Main_init 105 = .ok (.sipush 160, 3) := by decide +kernel
theorem d_Main_init_108 : decode b_Main_init 108 = .ok (.newarray .int, 2) := by decide +kernel
theorem d_Main_init_110 : decode b_Main_init 110 = .ok (.astore_n 1, 1) := by decide +kernel
theorem d_Main_init_111 : decode b_Main_init 111 = .ok (.iconst 0, 1) := by decide +kernel
theorem d_Main_init_112 : decode b_Main_init 112 = .ok (.istore_n 2, 1) := by decide +kernel
theorem d_Main_init_113 : decode b_Main_init 113 = .ok (.iload_n 2, 1) := by decide +kernel
theorem d_Main_init_114 : decode b_Main_init 114 = .ok (.bipush 6, 2) := by decide +kernel
theorem d_Main_init_116 : decode b_Main_init 116 = .ok (.if_icmp .ge 23, 3) := by decide +kernel
theorem d_Main_init_119 : decode b_Main_init 119 = .ok (.aload_n 0, 1) := by decide +kernel
theorem d_Main_init_120 : decode b_Main_init 120 = .ok (.getfield 17, 3) := by decide +kernel
theorem d_Main_init_123 : decode b_Main_init 123 = .ok (.iload_n 2, 1) := by decide +kernel
theorem d_Main_init_124 : decode b_Main_init 124 = .ok (.new 15, 3) := by decide +kernel
theorem d_Main_init_127 : decode b_Main_init 127 = .ok (.dup, 1) := by decide +kernel
theorem d_Main_init_128 : decode b_Main_init 128 = .ok (.aload_n 1, 1) := by decide +kernel
theorem d_Main_init_129 : decode b_Main_init 129 = .ok (.invokespecial 43, 3) := by decide +kernel
theorem d_Main_init_132 : decode b_Main_init 132 = .ok (.aastore, 1) := by decide +kernel
theorem d_Main_init_133 : decode b_Main_init 133 = .ok (.iinc 2 1, 3) := by decide +kernel
theorem d_Main_init_136 : decode b_Main_init 136 = .ok (.goto (-23), 3) := by decide +kernel
theorem d_Main_init_139 : decode b_Main_init 139 = .ok (.iconst 0, 1) := by decide +kernel
theorem d_Main_init_140 : decode b_Main_init 140 = .ok (.istore_n 2, 1) := by decide +kernel
theorem d_Main_init_141 : decode b_Main_init 141 = .ok (.iload_n 2, 1) := by decide +kernel
theorem d_Main_init_142 : decode b_Main_init 142 = .ok (.ldc 46, 2) := by decide +kernel
theorem d_Main_init_144 : decode b_Main_init 144 = .ok (.invokevirtual 48, 3) := by decide +kernel
theorem d_Main_init_147 : decode b_Main_init 147 = .ok (.if_icmp .ge 22, 3) := by decide +kernel
theorem d_Main_init_150 : decode b_Main_init 150 = .ok (.aload_n 0, 1) := by decide +kernel
theorem d_Main_init_151 : decode b_Main_init 151 = .ok (.getfield 24, 3) := by decide +kernel
theorem d_Main_init_154 : decode b_Main_init 154 = .ok (.ldc 46, 2) := by decide +kernel
theorem d_Main_init_156 : decode b_Main_init 156 = .ok (.iload_n 2, 1) := by decide +kernel
theorem d_Main_init_157 : decode b_Main_init 157 = .ok (.invokevirtual 54, 3) := by decide +kernel
theorem d_Main_init_160 : decode b_Main_init 160 = .ok (.invokevirtual 58, 3) := by decide +kernel
theorem d_Main_init_163 : decode b_Main_init 163 = .ok (.iinc 2 1, 3) := by decide +kernel
theorem d_Main_init_166 : decode b_Main_init 166 = .ok (.goto (-25), 3) := by decide +kernel
theorem d_Main_init_169 : decode b_Main_init 169 = .ok (.aload_n 0, 1) := by decide +kernel
theorem d_Main_init_170 : decode b_Main_init 170 = .ok (.new 62, 3) := by decide +kernel
theorem d_Main_init_173 : decode b_Main_init 173 = .ok (.dup, 1) := by decide +kernel
theorem d_Main_init_174 : decode b_Main_init 174 = .ok (.aload_n 0, 1) := by decide +kernel
theorem d_Main_init_175 : decode b_Main_init 175 = .ok (.getfield 24, 3) := by decide +kernel
theorem d_Main_init_178 : decode b_Main_init 178 = .ok (.aload_n 0, 1) := by decide +kernel
theorem d_Main_init_179 : decode b_Main_init 179 = .ok (.getfield 17, 3) := by decide +kernel
theorem d_Main_init_182 : decode b_Main_init 182 = .ok (.iconst 0, 1) := by decide +kernel
theorem d_Main_init_183 : decode b_Main_init 183 = .ok (.aaload, 1) := by decide +kernel
theorem d_Main_init_184 : decode b_Main_init 184 = .ok (.invokespecial 64, 3) := by decide +kernel
theorem d_Main_init_187 : decode b_Main_init 187 = .ok (.putfield 67, 3) := by decide +kernel
theorem d_Main_init_190 : decode b_Main_init 190 = .ok (.aload_n 0, 1) := by decide +kernel
theorem d_Main_init_191 : decode b_Main_init 191 = .ok (.getfield 67, 3) := by decide +kernel
theorem d_Main_init_194 : decode b_Main_init 194 = .ok (.invokevirtual 71, 3) := by decide +kernel
theorem d_Main_init_197 : decode b_Main_init 197 = .ok (.pop, 1) := by decide +kernel
theorem d_Main_init_198 : decode b_Main_init 198 = .ok (.aload_n 0, 1) := by decide +kernel
theorem d_Main_init_199 : decode b_Main_init 199 = .ok (.getfield 24, 3) := by decide +kernel
theorem d_Main_init_202 : decode b_Main_init 202 = .ok (.invokevirtual 74, 3) := by decide +kernel
theorem d_Main_init_205 : decode b_Main_init 205 = .ok (.aload_n 0, 1) := by decide +kernel
theorem d_Main_init_206 : decode b_Main_init 206 = .ok (.iconst 1, 1) := by decide +kernel
theorem d_Main_init_207 : decode b_Main_init 207 = .ok (.putfield 77, 3) := by decide +kernel
theorem d_Main_init_210 : decode b_Main_init 210 = .ok (.aload_n 0, 1) := by decide +kernel
theorem d_Main_init_211 : decode b_Main_init 211 = .ok (.new 81, 3) := by decide +kernel
theorem d_Main_init_214 : decode b_Main_init 214 = .ok (.dup, 1) := by decide +kernel
theorem d_Main_init_215 : decode b_Main_init 215 = .ok (.aload_n 0, 1) := by decide +kernel
theorem d_Main_init_216 : decode b_Main_init 216 = .ok (.getfield 11, 3) := by decide +kernel
theorem d_Main_init_219 : decode b_Main_init 219 = .ok (.iconst 0, 1) := by decide +kernel
theorem d_Main_init_220 : decode b_Main_init 220 = .ok (.aaload, 1) := by decide +kernel
theorem d_Main_init_221 : decode b_Main_init 221 = .ok (.aload_n 0, 1) := by decide +kernel
theorem d_Main_init_222 : decode b_Main_init 222 = .ok (.getfield 11, 3) := by decide +kernel
theorem d_Main_init_225 : decode b_Main_init 225 = .ok (.iconst 1, 1) := by decide +kernel
theorem d_Main_init_226 : decode b_Main_init 226 = .ok (.aaload, 1) := by decide +kernel
theorem d_Main_init_227 : decode b_Main_init 227 = .ok (.aload_n 0, 1) := by decide +kernel
theorem d_Main_init_228 : decode b_Main_init 228 = .ok (.getfield 17, 3) := by decide +kernel
theorem d_Main_init_231 : decode b_Main_init 231 = .ok (.iconst 0, 1) := by decide +kernel
theorem d_Main_init_232 : decode b_Main_init 232 = .ok (.aaload, 1) := by decide +kernel
theorem d_Main_init_233 : decode b_Main_init 233 = .ok (.invokespecial 83, 3) := by decide +kernel
theorem d_Main_init_236 : decode b_Main_init 236 = .ok (.putfield 86, 3) := by decide +kernel
theorem d_Main_init_239 : decode b_Main_init 239 = .ok (.aload_n 0, 1) := by decide +kernel
theorem d_Main_init_240 : decode b_Main_init 240 = .ok (.new 90, 3) := by decide +kernel
theorem d_Main_init_243 : decode b_Main_init 243 = .ok (.dup, 1) := by decide +kernel
theorem d_Main_init_244 : decode b_Main_init 244 = .ok (.aload_n 0, 1) := by decide +kernel
theorem d_Main_init_245 : decode b_Main_init 245 = .ok (.getfield 86, 3) := by decide +kernel
theorem d_Main_init_248 : decode b_Main_init 248 = .ok (.invokespecial 92, 3) := by decide +kernel
theorem d_Main_init_251 : decode b_Main_init 251 = .ok (.putfield 95, 3) := by decide +kernel
theorem d_Main_init_254 : decode b_Main_init 254 = .ok (.return_, 1) := by decide +kernel
