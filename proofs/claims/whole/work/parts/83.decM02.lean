/-! decode rows -/
theorem d_Model_init_151 : decode b_Model_init 151 = .ok (.iconst 4, 1) := by decide +kernel
theorem d_Model_init_152 : decode b_Model_init 152 = .ok (.bipush 101, 2) := by decide +kernel
theorem d_Model_init_154 : decode b_Model_init 154 = .ok (.iastore, 1) := by decide +kernel
theorem d_Model_init_155 : decode b_Model_init 155 = .ok (.dup, 1) := by decide +kernel
theorem d_Model_init_156 : decode b_Model_init 156 = .ok (.iconst 5, 1) := by decide +kernel
theorem d_Model_init_157 : decode b_Model_init 157 = .ok (.bipush 32, 2) := by decide +kernel
theorem d_Model_init_159 : decode b_Model_init 159 = .ok (.iastore, 1) := by decide +kernel
theorem d_Model_init_160 : decode b_Model_init 160 = .ok (.dup, 1) := by decide +kernel
theorem d_Model_init_161 : decode b_Model_init 161 = .ok (.bipush 6, 2) := by decide +kernel
theorem d_Model_init_163 : decode b_Model_init 163 = .ok (.bipush 116, 2) := by decide +kernel
theorem d_Model_init_165 : decode b_Model_init 165 = .ok (.iastore, 1) := by decide +kernel
theorem d_Model_init_166 : decode b_Model_init 166 = .ok (.dup, 1) := by decide +kernel
theorem d_Model_init_167 : decode b_Model_init 167 = .ok (.bipush 7, 2) := by decide +kernel
theorem d_Model_init_169 : decode b_Model_init 169 = .ok (.bipush 111, 2) := by decide +kernel
theorem d_Model_init_171 : decode b_Model_init 171 = .ok (.iastore, 1) := by decide +kernel
theorem d_Model_init_172 : decode b_Model_init 172 = .ok (.dup, 1) := by decide +kernel
theorem d_Model_init_173 : decode b_Model_init 173 = .ok (.bipush 8, 2) := by decide +kernel
theorem d_Model_init_175 : decode b_Model_init 175 = .ok (.bipush 108, 2) := by decide +kernel
theorem d_Model_init_177 : decode b_Model_init 177 = .ok (.iastore, 1) := by decide +kernel
theorem d_Model_init_178 : decode b_Model_init 178 = .ok (.dup, 1) := by decide +kernel
theorem d_Model_init_179 : decode b_Model_init 179 = .ok (.bipush 9, 2) := by decide +kernel
theorem d_Model_init_181 : decode b_Model_init 181 = .ok (.bipush 100, 2) := by decide +kernel
theorem d_Model_init_183 : decode b_Model_init 183 = .ok (.iastore, 1) := by decide +kernel
theorem d_Model_init_184 : decode b_Model_init 184 = .ok (.dup, 1) := by decide +kernel
theorem d_Model_init_185 : decode b_Model_init 185 = .ok (.bipush 10, 2) := by decide +kernel
theorem d_Model_init_187 : decode b_Model_init 187 = .ok (.bipush 32, 2) := by decide +kernel
theorem d_Model_init_189 : decode b_Model_init 189 = .ok (.iastore, 1) := by decide +kernel
theorem d_Model_init_190 : decode b_Model_init 190 = .ok (.dup, 1) := by decide +kernel
theorem d_Model_init_191 : decode b_Model_init 191 = .ok (.bipush 11, 2) := by decide +kernel
theorem d_Model_init_193 : decode b_Model_init 193 = .ok (.bipush 43, 2) := by decide +kernel
theorem d_Model_init_195 : decode b_Model_init 195 = .ok (.iastore, 1) := by decide +kernel
theorem d_Model_init_196 : decode b_Model_init 196 = .ok (.dup, 1) := by decide +kernel
theorem d_Model_init_197 : decode b_Model_init 197 = .ok (.bipush 12, 2) := by decide +kernel
theorem d_Model_init_199 : decode b_Model_init 199 = .ok (.bipush 32, 2) := by decide +kernel
theorem d_Model_init_201 : decode b_Model_init 201 = .ok (.iastore, 1) := by decide +kernel
theorem d_Model_init_202 : decode b_Model_init 202 = .ok (.dup, 1) := by decide +kernel
theorem d_Model_init_203 : decode b_Model_init 203 = .ok (.bipush 13, 2) := by decide +kernel
theorem d_Model_init_205 : decode b_Model_init 205 = .ok (.bipush 104, 2) := by decide +kernel
theorem d_Model_init_207 : decode b_Model_init 207 = .ok (.iastore, 1) := by decide +kernel
theorem d_Model_init_208 : decode b_Model_init 208 = .ok (.dup, 1) := by decide +kernel
theorem d_Model_init_209 : decode b_Model_init 209 = .ok (.bipush 14, 2) := by decide +kernel
theorem d_Model_init_211 : decode b_Model_init 211 = .ok (.bipush 97, 2) := by decide +kernel
theorem d_Model_init_213 : decode b_Model_init 213 = .ok (.iastore, 1) := by decide +kernel
theorem d_Model_init_214 : decode b_Model_init 214 = .ok (.dup, 1) := by decide +kernel
theorem d_Model_init_215 : decode b_Model_init 215 = .ok (.bipush 15, 2) := by decide +kernel
theorem d_Model_init_217 : decode b_Model_init 217 = .ok (.bipush 114, 2) := by decide +kernel
theorem d_Model_init_219 : decode b_Model_init 219 = .ok (.iastore, 1) := by decide +kernel
theorem d_Model_init_220 : decode b_Model_init 220 = .ok (.dup, 1) := by decide +kernel
theorem d_Model_init_221 : decode b_Model_init 221 = .ok (.bipush 16, 2) := by decide +kernel
theorem d_Model_init_223 : decode b_Model_init 223 = .ok (.bipush 100, 2) := by decide +kernel
theorem d_Model_init_225 : decode b_Model_init 225 = .ok (.iastore, 1) := by decide +kernel
theorem d_Model_init_226 : decode b_Model_init 226 = .ok (.dup, 1) := by decide +kernel
theorem d_Model_init_227 : decode b_Model_init 227 = .ok (.bipush 17, 2) := by decide +kernel
theorem d_Model_init_229 : decode b_Model_init 229 = .ok (.bipush 32, 2) := by decide +kernel
theorem d_Model_init_231 : decode b_Model_init 231 = .ok (.iastore, 1) := by decide +kernel
theorem d_Model_init_232 : decode b_Model_init 232 = .ok (.dup, 1) := by decide +kernel
theorem d_Model_init_233 : decode b_Model_init 233 = .ok (.bipush 18, 2) := by decide +kernel
theorem d_Model_init_235 : decode b_Model_init 235 = .ok (.bipush 42, 2) := by decide +kernel
theorem d_Model_init_237 : decode b_Model_init 237 = .ok (.iastore, 1) := by decide +kernel
theorem d_Model_init_238 : decode b_Model_init 238 = .ok (.dup, 1) := by decide +kernel
theorem d_Model_init_239 : decode b_Model_init 239 = .ok (.bipush 19, 2) := by decide +kernel
theorem d_Model_init_241 : decode b_Model_init 241 = .ok (.bipush 32, 2) := by decide +kernel
theorem d_Model_init_243 : decode b_Model_init 243 = .ok (.iastore, 1) := by decide +kernel
theorem d_Model_init_244 : decode b_Model_init 244 = .ok (.dup, 1) := by decide +kernel
theorem d_Model_init_245 : decode b_Model_init 245 = .ok (.bipush 20, 2) := by decide +kernel
theorem d_Model_init_247 : decode b_Model_init 247 = .ok (.bipush 54, 2) := by decide +kernel
theorem d_Model_init_249 : decode b_Model_init 249 = .ok (.iastore, 1) := by decide +kernel
theorem d_Model_init_250 : decode b_Model_init 250 = .ok (.dup, 1) := by decide +kernel
theorem d_Model_init_251 : decode b_Model_init 251 = .ok (.bipush 21, 2) := by decide +kernel
theorem d_Model_init_253 : decode b_Model_init 253 = .ok (.bipush 32, 2) := by decide +kernel
theorem d_Model_init_255 : decode b_Model_init 255 = .ok (.iastore, 1) := by decide +kernel
theorem d_Model_init_256 : decode b_Model_init 256 = .ok (.dup, 1) := by decide +kernel
theorem d_Model_init_257 : decode b_Model_init 257 = .ok (.bipush 22, 2) := by decide +kernel
theorem d_Model_init_259 : decode b_Model_init 259 = .ok (.bipush 43, 2) := by decide +kernel
theorem d_Model_init_261 : decode b_Model_init 261 = .ok (.iastore, 1) := by decide +kernel
theorem d_Model_init_262 : decode b_Model_init 262 = .ok (.dup, 1) := by decide +kernel
theorem d_Model_init_263 : decode b_Model_init 263 = .ok (.bipush 23, 2) := by decide +kernel
theorem d_Model_init_265 : decode b_Model_init 265 = .ok (.bipush 32, 2) := by decide +kernel
theorem d_Model_init_267 : decode b_Model_init 267 = .ok (.iastore, 1) := by decide +kernel
theorem d_Model_init_268 : decode b_Model_init 268 = .ok (.dup, 1) := by decide +kernel
theorem d_Model_init_269 : decode b_Model_init 269 = .ok (.bipush 24, 2) := by decide +kernel
theorem d_Model_init_271 : decode b_Model_init 271 = .ok (.bipush 104, 2) := by decide +kernel
theorem d_Model_init_273 : decode b_Model_init 273 = .ok (.iastore, 1) := by decide +kernel
theorem d_Model_init_274 : decode b_Model_init 274 = .ok (.dup, 1) := by decide +kernel
theorem d_Model_init_275 : decode b_Model_init 275 = .ok (.bipush 25, 2) := by decide +kernel
theorem d_Model_init_277 : decode b_Model_init 277 = .ok (.bipush 111, 2) := by decide +kernel
theorem d_Model_init_279 : decode b_Model_init 279 = .ok (.iastore, 1) := by decide +kernel
theorem d_Model_init_280 : decode b_Model_init 280 = .ok (.dup, 1) := by decide +kernel
theorem d_Model_init_281 : decode b_Model_init 281 = .ok (.bipush 26, 2) := by decide +kernel
theorem d_Model_init_283 : decode b_Model_init 283 = .ok (.bipush 108, 2) := by decide +kernel
