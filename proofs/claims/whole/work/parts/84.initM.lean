/-! ===== the reference's constructor ===== -/
/-! Model<init> -/
def y_Model_init : MethodName := ⟨R_Model, "<init>", "()V"⟩
theorem a_Model_init : y_Model_init.cls = R_Model ∧ y_Model_init.cls ≠ "java/lang/invoke/MethodHandle" ∧ y_Model_init.cls ≠ "java/lang/invoke/VarHandle" ∧ (parseMethodDescriptor y_Model_init.desc).map (fun d => d.parameters.length) = some 0 := by decide +kernel
theorem w_mModel : Cond.instanceMethod y_Model_init ∈ TB := tb_in 975 (by decide +kernel) (by decide +kernel)
theorem w_iModel : Cond.initialized y_Model_init.cls ∈ TB := w_80
theorem w_cModel : Cond.code y_Model_init b_Model_init 2 none ∈ TB := List.mem_filter.mpr ⟨List.mem_append_right _ (List.mem_append_right _ (List.mem_append_right _ (List.mem_append_right _ (List.mem_append_left _ (List.mem_of_getElem? (i := 194) rfl))))), by rfl⟩
theorem z_Model : ∀ j, j < 45 → defaultValue (t_Model j) = vp_V [.int 0, .null, .null, .null, .null, .null, .null, .int 0, .null, .null, .int 0, .int 0, .int 0, .int 0, .int 0, .null, .null, .null, .null, .null, .null, .int 0, .int 0, .int 0, .int 0, .null, .null, .int 0, .int 0, .int 0, .null, .null, .int 0, .int 0, .int 0, .int 0, .int 0, .int 0, .int 0, .int 0, .int 0, .int 0, .int 0, .int 0, .null] j := fun j hj => match j, hj with | 0, _ => rfl | 1, _ => rfl | 2, _ => rfl | 3, _ => rfl | 4, _ => rfl | 5, _ => rfl | 6, _ => rfl | 7, _ => rfl | 8, _ => rfl | 9, _ => rfl | 10, _ => rfl | 11, _ => rfl | 12, _ => rfl | 13, _ => rfl | 14, _ => rfl | 15, _ => rfl | 16, _ => rfl | 17, _ => rfl | 18, _ => rfl | 19, _ => rfl | 20, _ => rfl | 21, _ => rfl | 22, _ => rfl | 23, _ => rfl | 24, _ => rfl | 25, _ => rfl | 26, _ => rfl | 27, _ => rfl | 28, _ => rfl | 29, _ => rfl | 30, _ => rfl | 31, _ => rfl | 32, _ => rfl | 33, _ => rfl | 34, _ => rfl | 35, _ => rfl | 36, _ => rfl | 37, _ => rfl | 38, _ => rfl | 39, _ => rfl | 40, _ => rfl | 41, _ => rfl | 42, _ => rfl | 43, _ => rfl | 44, _ => rfl | k + 45, h => absurd h (by omega)
abbrev rm_Model_init : Room := { frames := 5, cells := 19, slots := 2164, locals := 109 }
theorem w_977 : Cond.methodLink R_Model 1 objectInit ∈ TB := tb_in 977 (by decide +kernel) (by decide +kernel)
theorem w_978 : Cond.methodLink R_Model 71 y_Model_text ∈ TB := tb_in 978 (by decide +kernel) (by decide +kernel)
theorem w_979 : Cond.instanceMethod y_Model_text ∈ TB := tb_in 979 (by decide +kernel) (by decide +kernel)
theorem w_980 : Cond.selects R_Model y_Model_text y_Model_text ∈ TB := tb_in 980 (by decide +kernel) (by decide +kernel)
theorem w_1045 : Cond.fieldLink R_Model 49 R_Model "law" "[I" ∈ TB := tb_in 1045 (by decide +kernel) (by decide +kernel)
def muB : St := up1 (muA 62) 0 7 62
theorem Wd_M {cA : Nat → ClassId} {ad : Nat → Nat} {σ : St} : Wd cA ad shM σ = [(ad 0, oB 11 [.int (σ.1 0 0), .ref (ad 1), .ref (ad 2), .ref (ad 3), .ref (ad 4), .ref (ad 5), .ref (ad 6), .int (σ.1 0 7), .ref (ad 7), .ref (ad 8), .int (σ.1 0 10), .int (σ.1 0 11), .int (σ.1 0 12), .int (σ.1 0 13), .int (σ.1 0 14), .ref (ad 9), .ref (ad 10), .ref (ad 11), .ref (ad 12), .ref (ad 13), .ref (ad 14), .int (σ.1 0 21), .int (σ.1 0 22), .int (σ.1 0 23), .int (σ.1 0 24), .ref (ad 15), .ref (ad 16), .int (σ.1 0 27), .int (σ.1 0 28), .int (σ.1 0 29), .ref (ad 17), .ref (ad 18), .int (σ.1 0 32), .int (σ.1 0 33), .int (σ.1 0 34), .int (σ.1 0 35), .int (σ.1 0 36), .int (σ.1 0 37), .int (σ.1 0 38), .int (σ.1 0 39), .int (σ.1 0 40), .int (σ.1 0 41), .int (σ.1 0 42), .int (σ.1 0 43), .ref (ad 19)]), (ad 1, aI (cA 0) 6 (σ.1 1)), (ad 2, aI (cA 0) 6 (σ.1 2)), (ad 3, aI (cA 0) 6 (σ.1 3)), (ad 4, aI (cA 0) 6 (σ.1 4)), (ad 5, aI (cA 0) 6 (σ.1 5)), (ad 6, aI (cA 0) 160 (σ.1 6)), (ad 7, aI (cA 0) 1200 (σ.1 7)), (ad 8, aI (cA 0) 24 (σ.1 8)), (ad 9, aI (cA 0) 6 (σ.1 9)), (ad 10, aI (cA 0) 6 (σ.1 10)), (ad 11, aI (cA 0) 4 (σ.1 11)), (ad 12, aI (cA 0) 4 (σ.1 12)), (ad 13, aI (cA 0) 160 (σ.1 13)), (ad 14, aI (cA 0) 62 (σ.1 14)), (ad 15, aI (cA 0) 96 (σ.1 15)), (ad 16, aI (cA 0) 200 (σ.1 16)), (ad 17, aI (cA 0) 200 (σ.1 17)), (ad 18, aI (cA 0) 6 (σ.1 18)), (ad 19, aI (cA 0) 6 (σ.1 19))] := by
  rw [Wd_mR]
  show mR _ 0 shM = _
  simp only [shM, mR, s_cell, s_fs_mR, s_fv, Nat.zero_add]
section MI_
variable {p : Program} {l : Launch} {e : Env} {R : Room} {s : State} {m : MethodId} {args : Array Value} {below : List Frame} {meth : Method} {c : Code} {H : Heap} {locs : List Loc} {Q : State → Prop} {D : va_G} {cA : Nat → ClassId} {adc : Nat → Nat} {A : Nat → Prop} {cells slots : Nat} {ls : Array Slot} {rest : List Value}
set_option maxHeartbeats 4000000 in
set_option maxRecDepth 100000 in
theorem fill_90 (K : Fx p s m args meth c b_Model_init 2 R_Model none) {ws : va_W} {a : Nat} (hw : Wn D cA A s (ws ++ [(a, aI (cA 0) 4 (tkF M1L 0))]) H locs) (kk : ∀ (H1 : Heap) (locs1 : List Loc), Wn D cA A s (ws ++ [(a, aI (cA 0) 4 (tkF M1L 4))]) H1 locs1 → W p l e R s m args below meth c H1 locs1 cells slots Q (F0 m 106 ls (.ref a :: rest))) : W p l e R s m args below meth c H locs cells slots Q (F0 m 90 ls (.ref a :: rest)) := by
  have hx := K.1.1; have hb := K.1.2.1
  refine lv_dup hx hb d_Model_init_90 rfl ?_
  refine lv_iconst (v := 0) hx hb d_Model_init_91 (by decide) ?_
  refine lv_iconst (v := -1) hx hb d_Model_init_92 (by decide) ?_
  refine n_iastE K hw (inB_vp (n := 4) (by decide)) (tkF_next M1L (k := 0) rfl rfl) d_Model_init_93 (fun H locs hw => ?_)
  refine lv_dup hx hb d_Model_init_94 rfl ?_
  refine lv_iconst (v := 1) hx hb d_Model_init_95 (by decide) ?_
  refine lv_iconst (v := -1) hx hb d_Model_init_96 (by decide) ?_
  refine n_iastE K hw (inB_vp (n := 4) (by decide)) (tkF_next M1L (k := 1) rfl rfl) d_Model_init_97 (fun H locs hw => ?_)
  refine lv_dup hx hb d_Model_init_98 rfl ?_
  refine lv_iconst (v := 2) hx hb d_Model_init_99 (by decide) ?_
  refine lv_iconst (v := -1) hx hb d_Model_init_100 (by decide) ?_
  refine n_iastE K hw (inB_vp (n := 4) (by decide)) (tkF_next M1L (k := 2) rfl rfl) d_Model_init_101 (fun H locs hw => ?_)
  refine lv_dup hx hb d_Model_init_102 rfl ?_
  refine lv_iconst (v := 3) hx hb d_Model_init_103 (by decide) ?_
  refine lv_iconst (v := -1) hx hb d_Model_init_104 (by decide) ?_
  refine n_iastE K hw (inB_vp (n := 4) (by decide)) (tkF_next M1L (k := 3) rfl rfl) d_Model_init_105 (fun H locs hw => ?_)
  exact kk _ _ hw
set_option maxHeartbeats 4000000 in
set_option maxRecDepth 100000 in
theorem fill_130 (K : Fx p s m args meth c b_Model_init 2 R_Model none) {ws : va_W} {a : Nat} (hw : Wn D cA A s (ws ++ [(a, aI (cA 0) 62 (tkF LAWL 0))]) H locs) (kk : ∀ (H1 : Heap) (locs1 : List Loc), Wn D cA A s (ws ++ [(a, aI (cA 0) 62 (tkF LAWL 62))]) H1 locs1 → W p l e R s m args below meth c H1 locs1 cells slots Q (F0 m 496 ls (.ref a :: rest))) : W p l e R s m args below meth c H locs cells slots Q (F0 m 130 ls (.ref a :: rest)) := by
  have hx := K.1.1; have hb := K.1.2.1
  refine lv_dup hx hb d_Model_init_130 rfl ?_
  refine lv_iconst (v := 0) hx hb d_Model_init_131 (by decide) ?_
  refine lv_bipush (v := 102) hx hb d_Model_init_132 (by decide) ?_
  refine n_iastE K hw (inB_vp (n := 62) (by decide)) (tkF_next LAWL (k := 0) rfl rfl) d_Model_init_134 (fun H locs hw => ?_)
  refine lv_dup hx hb d_Model_init_135 rfl ?_
  refine lv_iconst (v := 1) hx hb d_Model_init_136 (by decide) ?_
  refine lv_bipush (v := 111) hx hb d_Model_init_137 (by decide) ?_
  refine n_iastE K hw (inB_vp (n := 62) (by decide)) (tkF_next LAWL (k := 1) rfl rfl) d_Model_init_139 (fun H locs hw => ?_)
  refine lv_dup hx hb d_Model_init_140 rfl ?_
  refine lv_iconst (v := 2) hx hb d_Model_init_141 (by decide) ?_
  refine lv_bipush (v := 114) hx hb d_Model_init_142 (by decide) ?_
  refine n_iastE K hw (inB_vp (n := 62) (by decide)) (tkF_next LAWL (k := 2) rfl rfl) d_Model_init_144 (fun H locs hw => ?_)
  refine lv_dup hx hb d_Model_init_145 rfl ?_
  refine lv_iconst (v := 3) hx hb d_Model_init_146 (by decide) ?_
  refine lv_bipush (v := 99) hx hb d_Model_init_147 (by decide) ?_
  refine n_iastE K hw (inB_vp (n := 62) (by decide)) (tkF_next LAWL (k := 3) rfl rfl) d_Model_init_149 (fun H locs hw => ?_)
  refine lv_dup hx hb d_Model_init_150 rfl ?_
  refine lv_iconst (v := 4) hx hb d_Model_init_151 (by decide) ?_
  refine lv_bipush (v := 101) hx hb d_Model_init_152 (by decide) ?_
  refine n_iastE K hw (inB_vp (n := 62) (by decide)) (tkF_next LAWL (k := 4) rfl rfl) d_Model_init_154 (fun H locs hw => ?_)
  refine lv_dup hx hb d_Model_init_155 rfl ?_
  refine lv_iconst (v := 5) hx hb d_Model_init_156 (by decide) ?_
  refine lv_bipush (v := 32) hx hb d_Model_init_157 (by decide) ?_
  refine n_iastE K hw (inB_vp (n := 62) (by decide)) (tkF_next LAWL (k := 5) rfl rfl) d_Model_init_159 (fun H locs hw => ?_)
  refine lv_dup hx hb d_Model_init_160 rfl ?_
  refine lv_bipush (v := 6) hx hb d_Model_init_161 (by decide) ?_
  refine lv_bipush (v := 116) hx hb d_Model_init_163 (by decide) ?_
  refine n_iastE K hw (inB_vp (n := 62) (by decide)) (tkF_next LAWL (k := 6) rfl rfl) d_Model_init_165 (fun H locs hw => ?_)
  refine lv_dup hx hb d_Model_init_166 rfl ?_
  refine lv_bipush (v := 7) hx hb d_Model_init_167 (by decide) ?_
  refine lv_bipush (v := 111) hx hb d_Model_init_169 (by decide) ?_
  refine n_iastE K hw (inB_vp (n := 62) (by decide)) (tkF_next LAWL (k := 7) rfl rfl) d_Model_init_171 (fun H locs hw => ?_)
  refine lv_dup hx hb d_Model_init_172 rfl ?_
  refine lv_bipush (v := 8) hx hb d_Model_init_173 (by decide) ?_
  refine lv_bipush (v := 108) hx hb d_Model_init_175 (by decide) ?_
  refine n_iastE K hw (inB_vp (n := 62) (by decide)) (tkF_next LAWL (k := 8) rfl rfl) d_Model_init_177 (fun H locs hw => ?_)
  refine lv_dup hx hb d_Model_init_178 rfl ?_
  refine lv_bipush (v := 9) hx hb d_Model_init_179 (by decide) ?_
  refine lv_bipush (v := 100) hx hb d_Model_init_181 (by decide) ?_
  refine n_iastE K hw (inB_vp (n := 62) (by decide)) (tkF_next LAWL (k := 9) rfl rfl) d_Model_init_183 (fun H locs hw => ?_)
  refine lv_dup hx hb d_Model_init_184 rfl ?_
  refine lv_bipush (v := 10) hx hb d_Model_init_185 (by decide) ?_
  refine lv_bipush (v := 32) hx hb d_Model_init_187 (by decide) ?_
  refine n_iastE K hw (inB_vp (n := 62) (by decide)) (tkF_next LAWL (k := 10) rfl rfl) d_Model_init_189 (fun H locs hw => ?_)
  refine lv_dup hx hb d_Model_init_190 rfl ?_
  refine lv_bipush (v := 11) hx hb d_Model_init_191 (by decide) ?_
  refine lv_bipush (v := 43) hx hb d_Model_init_193 (by decide) ?_
  refine n_iastE K hw (inB_vp (n := 62) (by decide)) (tkF_next LAWL (k := 11) rfl rfl) d_Model_init_195 (fun H locs hw => ?_)
  refine lv_dup hx hb d_Model_init_196 rfl ?_
  refine lv_bipush (v := 12) hx hb d_Model_init_197 (by decide) ?_
  refine lv_bipush (v := 32) hx hb d_Model_init_199 (by decide) ?_
  refine n_iastE K hw (inB_vp (n := 62) (by decide)) (tkF_next LAWL (k := 12) rfl rfl) d_Model_init_201 (fun H locs hw => ?_)
  refine lv_dup hx hb d_Model_init_202 rfl ?_
  refine lv_bipush (v := 13) hx hb d_Model_init_203 (by decide) ?_
  refine lv_bipush (v := 104) hx hb d_Model_init_205 (by decide) ?_
  refine n_iastE K hw (inB_vp (n := 62) (by decide)) (tkF_next LAWL (k := 13) rfl rfl) d_Model_init_207 (fun H locs hw => ?_)
  refine lv_dup hx hb d_Model_init_208 rfl ?_
  refine lv_bipush (v := 14) hx hb d_Model_init_209 (by decide) ?_
  refine lv_bipush (v := 97) hx hb d_Model_init_211 (by decide) ?_
  refine n_iastE K hw (inB_vp (n := 62) (by decide)) (tkF_next LAWL (k := 14) rfl rfl) d_Model_init_213 (fun H locs hw => ?_)
  refine lv_dup hx hb d_Model_init_214 rfl ?_
  refine lv_bipush (v := 15) hx hb d_Model_init_215 (by decide) ?_
  refine lv_bipush (v := 114) hx hb d_Model_init_217 (by decide) ?_
  refine n_iastE K hw (inB_vp (n := 62) (by decide)) (tkF_next LAWL (k := 15) rfl rfl) d_Model_init_219 (fun H locs hw => ?_)
  refine lv_dup hx hb d_Model_init_220 rfl ?_
  refine lv_bipush (v := 16) hx hb d_Model_init_221 (by decide) ?_
  refine lv_bipush (v := 100) hx hb d_Model_init_223 (by decide) ?_
  refine n_iastE K hw (inB_vp (n := 62) (by decide)) (tkF_next LAWL (k := 16) rfl rfl) d_Model_init_225 (fun H locs hw => ?_)
  refine lv_dup hx hb d_Model_init_226 rfl ?_
  refine lv_bipush (v := 17) hx hb d_Model_init_227 (by decide) ?_
  refine lv_bipush (v := 32) hx hb d_Model_init_229 (by decide) ?_
  refine n_iastE K hw (inB_vp (n := 62) (by decide)) (tkF_next LAWL (k := 17) rfl rfl) d_Model_init_231 (fun H locs hw => ?_)
  refine lv_dup hx hb d_Model_init_232 rfl ?_
  refine lv_bipush (v := 18) hx hb d_Model_init_233 (by decide) ?_
  refine lv_bipush (v := 42) hx hb d_Model_init_235 (by decide) ?_
  refine n_iastE K hw (inB_vp (n := 62) (by decide)) (tkF_next LAWL (k := 18) rfl rfl) d_Model_init_237 (fun H locs hw => ?_)
  refine lv_dup hx hb d_Model_init_238 rfl ?_
  refine lv_bipush (v := 19) hx hb d_Model_init_239 (by decide) ?_
  refine lv_bipush (v := 32) hx hb d_Model_init_241 (by decide) ?_
  refine n_iastE K hw (inB_vp (n := 62) (by decide)) (tkF_next LAWL (k := 19) rfl rfl) d_Model_init_243 (fun H locs hw => ?_)
  refine lv_dup hx hb d_Model_init_244 rfl ?_
  refine lv_bipush (v := 20) hx hb d_Model_init_245 (by decide) ?_
  refine lv_bipush (v := 54) hx hb d_Model_init_247 (by decide) ?_
  refine n_iastE K hw (inB_vp (n := 62) (by decide)) (tkF_next LAWL (k := 20) rfl rfl) d_Model_init_249 (fun H locs hw => ?_)
  refine lv_dup hx hb d_Model_init_250 rfl ?_
  refine lv_bipush (v := 21) hx hb d_Model_init_251 (by decide) ?_
  refine lv_bipush (v := 32) hx hb d_Model_init_253 (by decide) ?_
  refine n_iastE K hw (inB_vp (n := 62) (by decide)) (tkF_next LAWL (k := 21) rfl rfl) d_Model_init_255 (fun H locs hw => ?_)
  refine lv_dup hx hb d_Model_init_256 rfl ?_
  refine lv_bipush (v := 22) hx hb d_Model_init_257 (by decide) ?_
  refine lv_bipush (v := 43) hx hb d_Model_init_259 (by decide) ?_
  refine n_iastE K hw (inB_vp (n := 62) (by decide)) (tkF_next LAWL (k := 22) rfl rfl) d_Model_init_261 (fun H locs hw => ?_)
  refine lv_dup hx hb d_Model_init_262 rfl ?_
  refine lv_bipush (v := 23) hx hb d_Model_init_263 (by decide) ?_
  refine lv_bipush (v := 32) hx hb d_Model_init_265 (by decide) ?_
  refine n_iastE K hw (inB_vp (n := 62) (by decide)) (tkF_next LAWL (k := 23) rfl rfl) d_Model_init_267 (fun H locs hw => ?_)
  refine lv_dup hx hb d_Model_init_268 rfl ?_
  refine lv_bipush (v := 24) hx hb d_Model_init_269 (by decide) ?_
  refine lv_bipush (v := 104) hx hb d_Model_init_271 (by decide) ?_
  refine n_iastE K hw (inB_vp (n := 62) (by decide)) (tkF_next LAWL (k := 24) rfl rfl) d_Model_init_273 (fun H locs hw => ?_)
  refine lv_dup hx hb d_Model_init_274 rfl ?_
  refine lv_bipush (v := 25) hx hb d_Model_init_275 (by decide) ?_
  refine lv_bipush (v := 111) hx hb d_Model_init_277 (by decide) ?_
  refine n_iastE K hw (inB_vp (n := 62) (by decide)) (tkF_next LAWL (k := 25) rfl rfl) d_Model_init_279 (fun H locs hw => ?_)
  refine lv_dup hx hb d_Model_init_280 rfl ?_
  refine lv_bipush (v := 26) hx hb d_Model_init_281 (by decide) ?_
  refine lv_bipush (v := 108) hx hb d_Model_init_283 (by decide) ?_
  refine n_iastE K hw (inB_vp (n := 62) (by decide)) (tkF_next LAWL (k := 26) rfl rfl) d_Model_init_285 (fun H locs hw => ?_)
  refine lv_dup hx hb d_Model_init_286 rfl ?_
  refine lv_bipush (v := 27) hx hb d_Model_init_287 (by decide) ?_
  refine lv_bipush (v := 100) hx hb d_Model_init_289 (by decide) ?_
  refine n_iastE K hw (inB_vp (n := 62) (by decide)) (tkF_next LAWL (k := 27) rfl rfl) d_Model_init_291 (fun H locs hw => ?_)
  refine lv_dup hx hb d_Model_init_292 rfl ?_
  refine lv_bipush (v := 28) hx hb d_Model_init_293 (by decide) ?_
  refine lv_bipush (v := 32) hx hb d_Model_init_295 (by decide) ?_
  refine n_iastE K hw (inB_vp (n := 62) (by decide)) (tkF_next LAWL (k := 28) rfl rfl) d_Model_init_297 (fun H locs hw => ?_)
  refine lv_dup hx hb d_Model_init_298 rfl ?_
  refine lv_bipush (v := 29) hx hb d_Model_init_299 (by decide) ?_
  refine lv_bipush (v := 59) hx hb d_Model_init_301 (by decide) ?_
  refine n_iastE K hw (inB_vp (n := 62) (by decide)) (tkF_next LAWL (k := 29) rfl rfl) d_Model_init_303 (fun H locs hw => ?_)
  refine lv_dup hx hb d_Model_init_304 rfl ?_
  refine lv_bipush (v := 30) hx hb d_Model_init_305 (by decide) ?_
  refine lv_bipush (v := 32) hx hb d_Model_init_307 (by decide) ?_
  refine n_iastE K hw (inB_vp (n := 62) (by decide)) (tkF_next LAWL (k := 30) rfl rfl) d_Model_init_309 (fun H locs hw => ?_)
  refine lv_dup hx hb d_Model_init_310 rfl ?_
  refine lv_bipush (v := 31) hx hb d_Model_init_311 (by decide) ?_
  refine lv_bipush (v := 115) hx hb d_Model_init_313 (by decide) ?_
  refine n_iastE K hw (inB_vp (n := 62) (by decide)) (tkF_next LAWL (k := 31) rfl rfl) d_Model_init_315 (fun H locs hw => ?_)
  refine lv_dup hx hb d_Model_init_316 rfl ?_
  refine lv_bipush (v := 32) hx hb d_Model_init_317 (by decide) ?_
  refine lv_bipush (v := 112) hx hb d_Model_init_319 (by decide) ?_
  refine n_iastE K hw (inB_vp (n := 62) (by decide)) (tkF_next LAWL (k := 32) rfl rfl) d_Model_init_321 (fun H locs hw => ?_)
  refine lv_dup hx hb d_Model_init_322 rfl ?_
  refine lv_bipush (v := 33) hx hb d_Model_init_323 (by decide) ?_
  refine lv_bipush (v := 101) hx hb d_Model_init_325 (by decide) ?_
  refine n_iastE K hw (inB_vp (n := 62) (by decide)) (tkF_next LAWL (k := 33) rfl rfl) d_Model_init_327 (fun H locs hw => ?_)
  refine lv_dup hx hb d_Model_init_328 rfl ?_
  refine lv_bipush (v := 34) hx hb d_Model_init_329 (by decide) ?_
  refine lv_bipush (v := 110) hx hb d_Model_init_331 (by decide) ?_
  refine n_iastE K hw (inB_vp (n := 62) (by decide)) (tkF_next LAWL (k := 34) rfl rfl) d_Model_init_333 (fun H locs hw => ?_)
  refine lv_dup hx hb d_Model_init_334 rfl ?_
  refine lv_bipush (v := 35) hx hb d_Model_init_335 (by decide) ?_
  refine lv_bipush (v := 100) hx hb d_Model_init_337 (by decide) ?_
  refine n_iastE K hw (inB_vp (n := 62) (by decide)) (tkF_next LAWL (k := 35) rfl rfl) d_Model_init_339 (fun H locs hw => ?_)
  refine lv_dup hx hb d_Model_init_340 rfl ?_
  refine lv_bipush (v := 36) hx hb d_Model_init_341 (by decide) ?_
  refine lv_bipush (v := 115) hx hb d_Model_init_343 (by decide) ?_
  refine n_iastE K hw (inB_vp (n := 62) (by decide)) (tkF_next LAWL (k := 36) rfl rfl) d_Model_init_345 (fun H locs hw => ?_)
  refine lv_dup hx hb d_Model_init_346 rfl ?_
  refine lv_bipush (v := 37) hx hb d_Model_init_347 (by decide) ?_
  refine lv_bipush (v := 32) hx hb d_Model_init_349 (by decide) ?_
  refine n_iastE K hw (inB_vp (n := 62) (by decide)) (tkF_next LAWL (k := 37) rfl rfl) d_Model_init_351 (fun H locs hw => ?_)
  refine lv_dup hx hb d_Model_init_352 rfl ?_
  refine lv_bipush (v := 38) hx hb d_Model_init_353 (by decide) ?_
  refine lv_bipush (v := 104) hx hb d_Model_init_355 (by decide) ?_
  refine n_iastE K hw (inB_vp (n := 62) (by decide)) (tkF_next LAWL (k := 38) rfl rfl) d_Model_init_357 (fun H locs hw => ?_)
  refine lv_dup hx hb d_Model_init_358 rfl ?_
  refine lv_bipush (v := 39) hx hb d_Model_init_359 (by decide) ?_
  refine lv_bipush (v := 97) hx hb d_Model_init_361 (by decide) ?_
  refine n_iastE K hw (inB_vp (n := 62) (by decide)) (tkF_next LAWL (k := 39) rfl rfl) d_Model_init_363 (fun H locs hw => ?_)
  refine lv_dup hx hb d_Model_init_364 rfl ?_
  refine lv_bipush (v := 40) hx hb d_Model_init_365 (by decide) ?_
  refine lv_bipush (v := 114) hx hb d_Model_init_367 (by decide) ?_
  refine n_iastE K hw (inB_vp (n := 62) (by decide)) (tkF_next LAWL (k := 40) rfl rfl) d_Model_init_369 (fun H locs hw => ?_)
  refine lv_dup hx hb d_Model_init_370 rfl ?_
  refine lv_bipush (v := 41) hx hb d_Model_init_371 (by decide) ?_
  refine lv_bipush (v := 100) hx hb d_Model_init_373 (by decide) ?_
  refine n_iastE K hw (inB_vp (n := 62) (by decide)) (tkF_next LAWL (k := 41) rfl rfl) d_Model_init_375 (fun H locs hw => ?_)
  refine lv_dup hx hb d_Model_init_376 rfl ?_
  refine lv_bipush (v := 42) hx hb d_Model_init_377 (by decide) ?_
  refine lv_bipush (v := 32) hx hb d_Model_init_379 (by decide) ?_
  refine n_iastE K hw (inB_vp (n := 62) (by decide)) (tkF_next LAWL (k := 42) rfl rfl) d_Model_init_381 (fun H locs hw => ?_)
  refine lv_dup hx hb d_Model_init_382 rfl ?_
  refine lv_bipush (v := 43) hx hb d_Model_init_383 (by decide) ?_
  refine lv_bipush (v := 59) hx hb d_Model_init_385 (by decide) ?_
  refine n_iastE K hw (inB_vp (n := 62) (by decide)) (tkF_next LAWL (k := 43) rfl rfl) d_Model_init_387 (fun H locs hw => ?_)
  refine lv_dup hx hb d_Model_init_388 rfl ?_
  refine lv_bipush (v := 44) hx hb d_Model_init_389 (by decide) ?_
  refine lv_bipush (v := 32) hx hb d_Model_init_391 (by decide) ?_
  refine n_iastE K hw (inB_vp (n := 62) (by decide)) (tkF_next LAWL (k := 44) rfl rfl) d_Model_init_393 (fun H locs hw => ?_)
  refine lv_dup hx hb d_Model_init_394 rfl ?_
  refine lv_bipush (v := 45) hx hb d_Model_init_395 (by decide) ?_
  refine lv_bipush (v := 104) hx hb d_Model_init_397 (by decide) ?_
  refine n_iastE K hw (inB_vp (n := 62) (by decide)) (tkF_next LAWL (k := 45) rfl rfl) d_Model_init_399 (fun H locs hw => ?_)
  refine lv_dup hx hb d_Model_init_400 rfl ?_
  refine lv_bipush (v := 46) hx hb d_Model_init_401 (by decide) ?_
  refine lv_bipush (v := 117) hx hb d_Model_init_403 (by decide) ?_
  refine n_iastE K hw (inB_vp (n := 62) (by decide)) (tkF_next LAWL (k := 46) rfl rfl) d_Model_init_405 (fun H locs hw => ?_)
  refine lv_dup hx hb d_Model_init_406 rfl ?_
  refine lv_bipush (v := 47) hx hb d_Model_init_407 (by decide) ?_
  refine lv_bipush (v := 114) hx hb d_Model_init_409 (by decide) ?_
  refine n_iastE K hw (inB_vp (n := 62) (by decide)) (tkF_next LAWL (k := 47) rfl rfl) d_Model_init_411 (fun H locs hw => ?_)
  refine lv_dup hx hb d_Model_init_412 rfl ?_
  refine lv_bipush (v := 48) hx hb d_Model_init_413 (by decide) ?_
  refine lv_bipush (v := 116) hx hb d_Model_init_415 (by decide) ?_
  refine n_iastE K hw (inB_vp (n := 62) (by decide)) (tkF_next LAWL (k := 48) rfl rfl) d_Model_init_417 (fun H locs hw => ?_)
  refine lv_dup hx hb d_Model_init_418 rfl ?_
  refine lv_bipush (v := 49) hx hb d_Model_init_419 (by decide) ?_
  refine lv_bipush (v := 115) hx hb d_Model_init_421 (by decide) ?_
  refine n_iastE K hw (inB_vp (n := 62) (by decide)) (tkF_next LAWL (k := 49) rfl rfl) d_Model_init_423 (fun H locs hw => ?_)
  refine lv_dup hx hb d_Model_init_424 rfl ?_
  refine lv_bipush (v := 50) hx hb d_Model_init_425 (by decide) ?_
  refine lv_bipush (v := 32) hx hb d_Model_init_427 (by decide) ?_
  refine n_iastE K hw (inB_vp (n := 62) (by decide)) (tkF_next LAWL (k := 50) rfl rfl) d_Model_init_429 (fun H locs hw => ?_)
  refine lv_dup hx hb d_Model_init_430 rfl ?_
  refine lv_bipush (v := 51) hx hb d_Model_init_431 (by decide) ?_
  refine lv_bipush (v := 48) hx hb d_Model_init_433 (by decide) ?_
  refine n_iastE K hw (inB_vp (n := 62) (by decide)) (tkF_next LAWL (k := 51) rfl rfl) d_Model_init_435 (fun H locs hw => ?_)
  refine lv_dup hx hb d_Model_init_436 rfl ?_
  refine lv_bipush (v := 52) hx hb d_Model_init_437 (by decide) ?_
  refine lv_bipush (v := 32) hx hb d_Model_init_439 (by decide) ?_
  refine n_iastE K hw (inB_vp (n := 62) (by decide)) (tkF_next LAWL (k := 52) rfl rfl) d_Model_init_441 (fun H locs hw => ?_)
  refine lv_dup hx hb d_Model_init_442 rfl ?_
  refine lv_bipush (v := 53) hx hb d_Model_init_443 (by decide) ?_
  refine lv_bipush (v := 45) hx hb d_Model_init_445 (by decide) ?_
  refine n_iastE K hw (inB_vp (n := 62) (by decide)) (tkF_next LAWL (k := 53) rfl rfl) d_Model_init_447 (fun H locs hw => ?_)
  refine lv_dup hx hb d_Model_init_448 rfl ?_
  refine lv_bipush (v := 54) hx hb d_Model_init_449 (by decide) ?_
  refine lv_bipush (v := 32) hx hb d_Model_init_451 (by decide) ?_
  refine n_iastE K hw (inB_vp (n := 62) (by decide)) (tkF_next LAWL (k := 54) rfl rfl) d_Model_init_453 (fun H locs hw => ?_)
  refine lv_dup hx hb d_Model_init_454 rfl ?_
  refine lv_bipush (v := 55) hx hb d_Model_init_455 (by decide) ?_
  refine lv_bipush (v := 97) hx hb d_Model_init_457 (by decide) ?_
  refine n_iastE K hw (inB_vp (n := 62) (by decide)) (tkF_next LAWL (k := 55) rfl rfl) d_Model_init_459 (fun H locs hw => ?_)
  refine lv_dup hx hb d_Model_init_460 rfl ?_
  refine lv_bipush (v := 56) hx hb d_Model_init_461 (by decide) ?_
  refine lv_bipush (v := 110) hx hb d_Model_init_463 (by decide) ?_
  refine n_iastE K hw (inB_vp (n := 62) (by decide)) (tkF_next LAWL (k := 56) rfl rfl) d_Model_init_465 (fun H locs hw => ?_)
  refine lv_dup hx hb d_Model_init_466 rfl ?_
  refine lv_bipush (v := 57) hx hb d_Model_init_467 (by decide) ?_
  refine lv_bipush (v := 103) hx hb d_Model_init_469 (by decide) ?_
  refine n_iastE K hw (inB_vp (n := 62) (by decide)) (tkF_next LAWL (k := 57) rfl rfl) d_Model_init_471 (fun H locs hw => ?_)
  refine lv_dup hx hb d_Model_init_472 rfl ?_
  refine lv_bipush (v := 58) hx hb d_Model_init_473 (by decide) ?_
  refine lv_bipush (v := 108) hx hb d_Model_init_475 (by decide) ?_
  refine n_iastE K hw (inB_vp (n := 62) (by decide)) (tkF_next LAWL (k := 58) rfl rfl) d_Model_init_477 (fun H locs hw => ?_)
  refine lv_dup hx hb d_Model_init_478 rfl ?_
  refine lv_bipush (v := 59) hx hb d_Model_init_479 (by decide) ?_
  refine lv_bipush (v := 101) hx hb d_Model_init_481 (by decide) ?_
  refine n_iastE K hw (inB_vp (n := 62) (by decide)) (tkF_next LAWL (k := 59) rfl rfl) d_Model_init_483 (fun H locs hw => ?_)
  refine lv_dup hx hb d_Model_init_484 rfl ?_
  refine lv_bipush (v := 60) hx hb d_Model_init_485 (by decide) ?_
  refine lv_bipush (v := 32) hx hb d_Model_init_487 (by decide) ?_
  refine n_iastE K hw (inB_vp (n := 62) (by decide)) (tkF_next LAWL (k := 60) rfl rfl) d_Model_init_489 (fun H locs hw => ?_)
  refine lv_dup hx hb d_Model_init_490 rfl ?_
  refine lv_bipush (v := 61) hx hb d_Model_init_491 (by decide) ?_
  refine lv_bipush (v := 59) hx hb d_Model_init_493 (by decide) ?_
  refine n_iastE K hw (inB_vp (n := 62) (by decide)) (tkF_next LAWL (k := 61) rfl rfl) d_Model_init_495 (fun H locs hw => ?_)
  exact kk _ _ hw
set_option maxHeartbeats 4000000 in
set_option maxRecDepth 100000 in
theorem fill_504 (K : Fx p s m args meth c b_Model_init 2 R_Model none) {ws : va_W} {a : Nat} (hw : Wn D cA A s (ws ++ [(a, aI (cA 0) 96 (tkF wordsL 0))]) H locs) (kk : ∀ (H1 : Heap) (locs1 : List Loc), Wn D cA A s (ws ++ [(a, aI (cA 0) 96 (tkF wordsL 96))]) H1 locs1 → W p l e R s m args below meth c H1 locs1 cells slots Q (F0 m 1074 ls (.ref a :: rest))) : W p l e R s m args below meth c H locs cells slots Q (F0 m 504 ls (.ref a :: rest)) := by
  have hx := K.1.1; have hb := K.1.2.1
  refine lv_dup hx hb d_Model_init_504 rfl ?_
  refine lv_iconst (v := 0) hx hb d_Model_init_505 (by decide) ?_
  refine lv_bipush (v := 102) hx hb d_Model_init_506 (by decide) ?_
  refine n_iastE K hw (inB_vp (n := 96) (by decide)) (tkF_next wordsL (k := 0) rfl rfl) d_Model_init_508 (fun H locs hw => ?_)
  refine lv_dup hx hb d_Model_init_509 rfl ?_
  refine lv_iconst (v := 1) hx hb d_Model_init_510 (by decide) ?_
  refine lv_bipush (v := 111) hx hb d_Model_init_511 (by decide) ?_
  refine n_iastE K hw (inB_vp (n := 96) (by decide)) (tkF_next wordsL (k := 1) rfl rfl) d_Model_init_513 (fun H locs hw => ?_)
  refine lv_dup hx hb d_Model_init_514 rfl ?_
  refine lv_iconst (v := 2) hx hb d_Model_init_515 (by decide) ?_
  refine lv_bipush (v := 114) hx hb d_Model_init_516 (by decide) ?_
  refine n_iastE K hw (inB_vp (n := 96) (by decide)) (tkF_next wordsL (k := 2) rfl rfl) d_Model_init_518 (fun H locs hw => ?_)
  refine lv_dup hx hb d_Model_init_519 rfl ?_
  refine lv_iconst (v := 3) hx hb d_Model_init_520 (by decide) ?_
  refine lv_bipush (v := 99) hx hb d_Model_init_521 (by decide) ?_
  refine n_iastE K hw (inB_vp (n := 96) (by decide)) (tkF_next wordsL (k := 3) rfl rfl) d_Model_init_523 (fun H locs hw => ?_)
  refine lv_dup hx hb d_Model_init_524 rfl ?_
  refine lv_iconst (v := 4) hx hb d_Model_init_525 (by decide) ?_
  refine lv_bipush (v := 101) hx hb d_Model_init_526 (by decide) ?_
  refine n_iastE K hw (inB_vp (n := 96) (by decide)) (tkF_next wordsL (k := 4) rfl rfl) d_Model_init_528 (fun H locs hw => ?_)
  refine lv_dup hx hb d_Model_init_529 rfl ?_
  refine lv_iconst (v := 5) hx hb d_Model_init_530 (by decide) ?_
  refine lv_bipush (v := 32) hx hb d_Model_init_531 (by decide) ?_
  refine n_iastE K hw (inB_vp (n := 96) (by decide)) (tkF_next wordsL (k := 5) rfl rfl) d_Model_init_533 (fun H locs hw => ?_)
  refine lv_dup hx hb d_Model_init_534 rfl ?_
  refine lv_bipush (v := 6) hx hb d_Model_init_535 (by decide) ?_
  refine lv_bipush (v := 32) hx hb d_Model_init_537 (by decide) ?_
  refine n_iastE K hw (inB_vp (n := 96) (by decide)) (tkF_next wordsL (k := 6) rfl rfl) d_Model_init_539 (fun H locs hw => ?_)
  refine lv_dup hx hb d_Model_init_540 rfl ?_
  refine lv_bipush (v := 7) hx hb d_Model_init_541 (by decide) ?_
  refine lv_bipush (v := 32) hx hb d_Model_init_543 (by decide) ?_
  refine n_iastE K hw (inB_vp (n := 96) (by decide)) (tkF_next wordsL (k := 7) rfl rfl) d_Model_init_545 (fun H locs hw => ?_)
  refine lv_dup hx hb d_Model_init_546 rfl ?_
  refine lv_bipush (v := 8) hx hb d_Model_init_547 (by decide) ?_
  refine lv_bipush (v := 115) hx hb d_Model_init_549 (by decide) ?_
  refine n_iastE K hw (inB_vp (n := 96) (by decide)) (tkF_next wordsL (k := 8) rfl rfl) d_Model_init_551 (fun H locs hw => ?_)
  refine lv_dup hx hb d_Model_init_552 rfl ?_
  refine lv_bipush (v := 9) hx hb d_Model_init_553 (by decide) ?_
  refine lv_bipush (v := 112) hx hb d_Model_init_555 (by decide) ?_
  refine n_iastE K hw (inB_vp (n := 96) (by decide)) (tkF_next wordsL (k := 9) rfl rfl) d_Model_init_557 (fun H locs hw => ?_)
  refine lv_dup hx hb d_Model_init_558 rfl ?_
  refine lv_bipush (v := 10) hx hb d_Model_init_559 (by decide) ?_
  refine lv_bipush (v := 101) hx hb d_Model_init_561 (by decide) ?_
  refine n_iastE K hw (inB_vp (n := 96) (by decide)) (tkF_next wordsL (k := 10) rfl rfl) d_Model_init_563 (fun H locs hw => ?_)
  refine lv_dup hx hb d_Model_init_564 rfl ?_
  refine lv_bipush (v := 11) hx hb d_Model_init_565 (by decide) ?_
  refine lv_bipush (v := 110) hx hb d_Model_init_567 (by decide) ?_
  refine n_iastE K hw (inB_vp (n := 96) (by decide)) (tkF_next wordsL (k := 11) rfl rfl) d_Model_init_569 (fun H locs hw => ?_)
  refine lv_dup hx hb d_Model_init_570 rfl ?_
  refine lv_bipush (v := 12) hx hb d_Model_init_571 (by decide) ?_
  refine lv_bipush (v := 100) hx hb d_Model_init_573 (by decide) ?_
  refine n_iastE K hw (inB_vp (n := 96) (by decide)) (tkF_next wordsL (k := 12) rfl rfl) d_Model_init_575 (fun H locs hw => ?_)
  refine lv_dup hx hb d_Model_init_576 rfl ?_
  refine lv_bipush (v := 13) hx hb d_Model_init_577 (by decide) ?_
  refine lv_bipush (v := 115) hx hb d_Model_init_579 (by decide) ?_
  refine n_iastE K hw (inB_vp (n := 96) (by decide)) (tkF_next wordsL (k := 13) rfl rfl) d_Model_init_581 (fun H locs hw => ?_)
  refine lv_dup hx hb d_Model_init_582 rfl ?_
  refine lv_bipush (v := 14) hx hb d_Model_init_583 (by decide) ?_
  refine lv_bipush (v := 32) hx hb d_Model_init_585 (by decide) ?_
  refine n_iastE K hw (inB_vp (n := 96) (by decide)) (tkF_next wordsL (k := 14) rfl rfl) d_Model_init_587 (fun H locs hw => ?_)
  refine lv_dup hx hb d_Model_init_588 rfl ?_
  refine lv_bipush (v := 15) hx hb d_Model_init_589 (by decide) ?_
  refine lv_bipush (v := 32) hx hb d_Model_init_591 (by decide) ?_
  refine n_iastE K hw (inB_vp (n := 96) (by decide)) (tkF_next wordsL (k := 15) rfl rfl) d_Model_init_593 (fun H locs hw => ?_)
  refine lv_dup hx hb d_Model_init_594 rfl ?_
  refine lv_bipush (v := 16) hx hb d_Model_init_595 (by decide) ?_
  refine lv_bipush (v := 104) hx hb d_Model_init_597 (by decide) ?_
  refine n_iastE K hw (inB_vp (n := 96) (by decide)) (tkF_next wordsL (k := 16) rfl rfl) d_Model_init_599 (fun H locs hw => ?_)
  refine lv_dup hx hb d_Model_init_600 rfl ?_
  refine lv_bipush (v := 17) hx hb d_Model_init_601 (by decide) ?_
  refine lv_bipush (v := 117) hx hb d_Model_init_603 (by decide) ?_
  refine n_iastE K hw (inB_vp (n := 96) (by decide)) (tkF_next wordsL (k := 17) rfl rfl) d_Model_init_605 (fun H locs hw => ?_)
  refine lv_dup hx hb d_Model_init_606 rfl ?_
  refine lv_bipush (v := 18) hx hb d_Model_init_607 (by decide) ?_
  refine lv_bipush (v := 114) hx hb d_Model_init_609 (by decide) ?_
  refine n_iastE K hw (inB_vp (n := 96) (by decide)) (tkF_next wordsL (k := 18) rfl rfl) d_Model_init_611 (fun H locs hw => ?_)
  refine lv_dup hx hb d_Model_init_612 rfl ?_
  refine lv_bipush (v := 19) hx hb d_Model_init_613 (by decide) ?_
  refine lv_bipush (v := 116) hx hb d_Model_init_615 (by decide) ?_
  refine n_iastE K hw (inB_vp (n := 96) (by decide)) (tkF_next wordsL (k := 19) rfl rfl) d_Model_init_617 (fun H locs hw => ?_)
  refine lv_dup hx hb d_Model_init_618 rfl ?_
  refine lv_bipush (v := 20) hx hb d_Model_init_619 (by decide) ?_
  refine lv_bipush (v := 115) hx hb d_Model_init_621 (by decide) ?_
  refine n_iastE K hw (inB_vp (n := 96) (by decide)) (tkF_next wordsL (k := 20) rfl rfl) d_Model_init_623 (fun H locs hw => ?_)
  refine lv_dup hx hb d_Model_init_624 rfl ?_
  refine lv_bipush (v := 21) hx hb d_Model_init_625 (by decide) ?_
  refine lv_bipush (v := 32) hx hb d_Model_init_627 (by decide) ?_
  refine n_iastE K hw (inB_vp (n := 96) (by decide)) (tkF_next wordsL (k := 21) rfl rfl) d_Model_init_629 (fun H locs hw => ?_)
  refine lv_dup hx hb d_Model_init_630 rfl ?_
  refine lv_bipush (v := 22) hx hb d_Model_init_631 (by decide) ?_
  refine lv_bipush (v := 32) hx hb d_Model_init_633 (by decide) ?_
  refine n_iastE K hw (inB_vp (n := 96) (by decide)) (tkF_next wordsL (k := 22) rfl rfl) d_Model_init_635 (fun H locs hw => ?_)
  refine lv_dup hx hb d_Model_init_636 rfl ?_
  refine lv_bipush (v := 23) hx hb d_Model_init_637 (by decide) ?_
  refine lv_bipush (v := 32) hx hb d_Model_init_639 (by decide) ?_
  refine n_iastE K hw (inB_vp (n := 96) (by decide)) (tkF_next wordsL (k := 23) rfl rfl) d_Model_init_641 (fun H locs hw => ?_)
  refine lv_dup hx hb d_Model_init_642 rfl ?_
  refine lv_bipush (v := 24) hx hb d_Model_init_643 (by decide) ?_
  refine lv_bipush (v := 116) hx hb d_Model_init_645 (by decide) ?_
  refine n_iastE K hw (inB_vp (n := 96) (by decide)) (tkF_next wordsL (k := 24) rfl rfl) d_Model_init_647 (fun H locs hw => ?_)
  refine lv_dup hx hb d_Model_init_648 rfl ?_
  refine lv_bipush (v := 25) hx hb d_Model_init_649 (by decide) ?_
  refine lv_bipush (v := 111) hx hb d_Model_init_651 (by decide) ?_
  refine n_iastE K hw (inB_vp (n := 96) (by decide)) (tkF_next wordsL (k := 25) rfl rfl) d_Model_init_653 (fun H locs hw => ?_)
  refine lv_dup hx hb d_Model_init_654 rfl ?_
  refine lv_bipush (v := 26) hx hb d_Model_init_655 (by decide) ?_
  refine lv_bipush (v := 108) hx hb d_Model_init_657 (by decide) ?_
  refine n_iastE K hw (inB_vp (n := 96) (by decide)) (tkF_next wordsL (k := 26) rfl rfl) d_Model_init_659 (fun H locs hw => ?_)
  refine lv_dup hx hb d_Model_init_660 rfl ?_
  refine lv_bipush (v := 27) hx hb d_Model_init_661 (by decide) ?_
  refine lv_bipush (v := 100) hx hb d_Model_init_663 (by decide) ?_
  refine n_iastE K hw (inB_vp (n := 96) (by decide)) (tkF_next wordsL (k := 27) rfl rfl) d_Model_init_665 (fun H locs hw => ?_)
  refine lv_dup hx hb d_Model_init_666 rfl ?_
  refine lv_bipush (v := 28) hx hb d_Model_init_667 (by decide) ?_
  refine lv_bipush (v := 32) hx hb d_Model_init_669 (by decide) ?_
  refine n_iastE K hw (inB_vp (n := 96) (by decide)) (tkF_next wordsL (k := 28) rfl rfl) d_Model_init_671 (fun H locs hw => ?_)
  refine lv_dup hx hb d_Model_init_672 rfl ?_
  refine lv_bipush (v := 29) hx hb d_Model_init_673 (by decide) ?_
  refine lv_bipush (v := 32) hx hb d_Model_init_675 (by decide) ?_
  refine n_iastE K hw (inB_vp (n := 96) (by decide)) (tkF_next wordsL (k := 29) rfl rfl) d_Model_init_677 (fun H locs hw => ?_)
  refine lv_dup hx hb d_Model_init_678 rfl ?_
  refine lv_bipush (v := 30) hx hb d_Model_init_679 (by decide) ?_
  refine lv_bipush (v := 32) hx hb d_Model_init_681 (by decide) ?_
  refine n_iastE K hw (inB_vp (n := 96) (by decide)) (tkF_next wordsL (k := 30) rfl rfl) d_Model_init_683 (fun H locs hw => ?_)
  refine lv_dup hx hb d_Model_init_684 rfl ?_
  refine lv_bipush (v := 31) hx hb d_Model_init_685 (by decide) ?_
  refine lv_bipush (v := 32) hx hb d_Model_init_687 (by decide) ?_
  refine n_iastE K hw (inB_vp (n := 96) (by decide)) (tkF_next wordsL (k := 31) rfl rfl) d_Model_init_689 (fun H locs hw => ?_)
  refine lv_dup hx hb d_Model_init_690 rfl ?_
  refine lv_bipush (v := 32) hx hb d_Model_init_691 (by decide) ?_
  refine lv_bipush (v := 109) hx hb d_Model_init_693 (by decide) ?_
  refine n_iastE K hw (inB_vp (n := 96) (by decide)) (tkF_next wordsL (k := 32) rfl rfl) d_Model_init_695 (fun H locs hw => ?_)
  refine lv_dup hx hb d_Model_init_696 rfl ?_
  refine lv_bipush (v := 33) hx hb d_Model_init_697 (by decide) ?_
  refine lv_bipush (v := 111) hx hb d_Model_init_699 (by decide) ?_
  refine n_iastE K hw (inB_vp (n := 96) (by decide)) (tkF_next wordsL (k := 33) rfl rfl) d_Model_init_701 (fun H locs hw => ?_)
  refine lv_dup hx hb d_Model_init_702 rfl ?_
  refine lv_bipush (v := 34) hx hb d_Model_init_703 (by decide) ?_
  refine lv_bipush (v := 114) hx hb d_Model_init_705 (by decide) ?_
  refine n_iastE K hw (inB_vp (n := 96) (by decide)) (tkF_next wordsL (k := 34) rfl rfl) d_Model_init_707 (fun H locs hw => ?_)
  refine lv_dup hx hb d_Model_init_708 rfl ?_
  refine lv_bipush (v := 35) hx hb d_Model_init_709 (by decide) ?_
  refine lv_bipush (v := 101) hx hb d_Model_init_711 (by decide) ?_
  refine n_iastE K hw (inB_vp (n := 96) (by decide)) (tkF_next wordsL (k := 35) rfl rfl) d_Model_init_713 (fun H locs hw => ?_)
  refine lv_dup hx hb d_Model_init_714 rfl ?_
  refine lv_bipush (v := 36) hx hb d_Model_init_715 (by decide) ?_
  refine lv_bipush (v := 32) hx hb d_Model_init_717 (by decide) ?_
  refine n_iastE K hw (inB_vp (n := 96) (by decide)) (tkF_next wordsL (k := 36) rfl rfl) d_Model_init_719 (fun H locs hw => ?_)
  refine lv_dup hx hb d_Model_init_720 rfl ?_
  refine lv_bipush (v := 37) hx hb d_Model_init_721 (by decide) ?_
  refine lv_bipush (v := 32) hx hb d_Model_init_723 (by decide) ?_
  refine n_iastE K hw (inB_vp (n := 96) (by decide)) (tkF_next wordsL (k := 37) rfl rfl) d_Model_init_725 (fun H locs hw => ?_)
  refine lv_dup hx hb d_Model_init_726 rfl ?_
  refine lv_bipush (v := 38) hx hb d_Model_init_727 (by decide) ?_
  refine lv_bipush (v := 32) hx hb d_Model_init_729 (by decide) ?_
  refine n_iastE K hw (inB_vp (n := 96) (by decide)) (tkF_next wordsL (k := 38) rfl rfl) d_Model_init_731 (fun H locs hw => ?_)
  refine lv_dup hx hb d_Model_init_732 rfl ?_
  refine lv_bipush (v := 39) hx hb d_Model_init_733 (by decide) ?_
  refine lv_bipush (v := 32) hx hb d_Model_init_735 (by decide) ?_
  refine n_iastE K hw (inB_vp (n := 96) (by decide)) (tkF_next wordsL (k := 39) rfl rfl) d_Model_init_737 (fun H locs hw => ?_)
  refine lv_dup hx hb d_Model_init_738 rfl ?_
  refine lv_bipush (v := 40) hx hb d_Model_init_739 (by decide) ?_
  refine lv_bipush (v := 104) hx hb d_Model_init_741 (by decide) ?_
  refine n_iastE K hw (inB_vp (n := 96) (by decide)) (tkF_next wordsL (k := 40) rfl rfl) d_Model_init_743 (fun H locs hw => ?_)
  refine lv_dup hx hb d_Model_init_744 rfl ?_
  refine lv_bipush (v := 41) hx hb d_Model_init_745 (by decide) ?_
  refine lv_bipush (v := 111) hx hb d_Model_init_747 (by decide) ?_
  refine n_iastE K hw (inB_vp (n := 96) (by decide)) (tkF_next wordsL (k := 41) rfl rfl) d_Model_init_749 (fun H locs hw => ?_)
  refine lv_dup hx hb d_Model_init_750 rfl ?_
  refine lv_bipush (v := 42) hx hb d_Model_init_751 (by decide) ?_
  refine lv_bipush (v := 108) hx hb d_Model_init_753 (by decide) ?_
  refine n_iastE K hw (inB_vp (n := 96) (by decide)) (tkF_next wordsL (k := 42) rfl rfl) d_Model_init_755 (fun H locs hw => ?_)
  refine lv_dup hx hb d_Model_init_756 rfl ?_
  refine lv_bipush (v := 43) hx hb d_Model_init_757 (by decide) ?_
  refine lv_bipush (v := 100) hx hb d_Model_init_759 (by decide) ?_
  refine n_iastE K hw (inB_vp (n := 96) (by decide)) (tkF_next wordsL (k := 43) rfl rfl) d_Model_init_761 (fun H locs hw => ?_)
  refine lv_dup hx hb d_Model_init_762 rfl ?_
  refine lv_bipush (v := 44) hx hb d_Model_init_763 (by decide) ?_
  refine lv_bipush (v := 32) hx hb d_Model_init_765 (by decide) ?_
  refine n_iastE K hw (inB_vp (n := 96) (by decide)) (tkF_next wordsL (k := 44) rfl rfl) d_Model_init_767 (fun H locs hw => ?_)
  refine lv_dup hx hb d_Model_init_768 rfl ?_
  refine lv_bipush (v := 45) hx hb d_Model_init_769 (by decide) ?_
  refine lv_bipush (v := 32) hx hb d_Model_init_771 (by decide) ?_
  refine n_iastE K hw (inB_vp (n := 96) (by decide)) (tkF_next wordsL (k := 45) rfl rfl) d_Model_init_773 (fun H locs hw => ?_)
  refine lv_dup hx hb d_Model_init_774 rfl ?_
  refine lv_bipush (v := 46) hx hb d_Model_init_775 (by decide) ?_
  refine lv_bipush (v := 32) hx hb d_Model_init_777 (by decide) ?_
  refine n_iastE K hw (inB_vp (n := 96) (by decide)) (tkF_next wordsL (k := 46) rfl rfl) d_Model_init_779 (fun H locs hw => ?_)
  refine lv_dup hx hb d_Model_init_780 rfl ?_
  refine lv_bipush (v := 47) hx hb d_Model_init_781 (by decide) ?_
  refine lv_bipush (v := 32) hx hb d_Model_init_783 (by decide) ?_
  refine n_iastE K hw (inB_vp (n := 96) (by decide)) (tkF_next wordsL (k := 47) rfl rfl) d_Model_init_785 (fun H locs hw => ?_)
  refine lv_dup hx hb d_Model_init_786 rfl ?_
  refine lv_bipush (v := 48) hx hb d_Model_init_787 (by decide) ?_
  refine lv_bipush (v := 104) hx hb d_Model_init_789 (by decide) ?_
  refine n_iastE K hw (inB_vp (n := 96) (by decide)) (tkF_next wordsL (k := 48) rfl rfl) d_Model_init_791 (fun H locs hw => ?_)
  refine lv_dup hx hb d_Model_init_792 rfl ?_
  refine lv_bipush (v := 49) hx hb d_Model_init_793 (by decide) ?_
  refine lv_bipush (v := 97) hx hb d_Model_init_795 (by decide) ?_
  refine n_iastE K hw (inB_vp (n := 96) (by decide)) (tkF_next wordsL (k := 49) rfl rfl) d_Model_init_797 (fun H locs hw => ?_)
  refine lv_dup hx hb d_Model_init_798 rfl ?_
  refine lv_bipush (v := 50) hx hb d_Model_init_799 (by decide) ?_
  refine lv_bipush (v := 114) hx hb d_Model_init_801 (by decide) ?_
  refine n_iastE K hw (inB_vp (n := 96) (by decide)) (tkF_next wordsL (k := 50) rfl rfl) d_Model_init_803 (fun H locs hw => ?_)
  refine lv_dup hx hb d_Model_init_804 rfl ?_
  refine lv_bipush (v := 51) hx hb d_Model_init_805 (by decide) ?_
  refine lv_bipush (v := 100) hx hb d_Model_init_807 (by decide) ?_
  refine n_iastE K hw (inB_vp (n := 96) (by decide)) (tkF_next wordsL (k := 51) rfl rfl) d_Model_init_809 (fun H locs hw => ?_)
  refine lv_dup hx hb d_Model_init_810 rfl ?_
  refine lv_bipush (v := 52) hx hb d_Model_init_811 (by decide) ?_
  refine lv_bipush (v := 32) hx hb d_Model_init_813 (by decide) ?_
  refine n_iastE K hw (inB_vp (n := 96) (by decide)) (tkF_next wordsL (k := 52) rfl rfl) d_Model_init_815 (fun H locs hw => ?_)
  refine lv_dup hx hb d_Model_init_816 rfl ?_
  refine lv_bipush (v := 53) hx hb d_Model_init_817 (by decide) ?_
  refine lv_bipush (v := 32) hx hb d_Model_init_819 (by decide) ?_
  refine n_iastE K hw (inB_vp (n := 96) (by decide)) (tkF_next wordsL (k := 53) rfl rfl) d_Model_init_821 (fun H locs hw => ?_)
  refine lv_dup hx hb d_Model_init_822 rfl ?_
  refine lv_bipush (v := 54) hx hb d_Model_init_823 (by decide) ?_
  refine lv_bipush (v := 32) hx hb d_Model_init_825 (by decide) ?_
  refine n_iastE K hw (inB_vp (n := 96) (by decide)) (tkF_next wordsL (k := 54) rfl rfl) d_Model_init_827 (fun H locs hw => ?_)
  refine lv_dup hx hb d_Model_init_828 rfl ?_
  refine lv_bipush (v := 55) hx hb d_Model_init_829 (by decide) ?_
  refine lv_bipush (v := 32) hx hb d_Model_init_831 (by decide) ?_
  refine n_iastE K hw (inB_vp (n := 96) (by decide)) (tkF_next wordsL (k := 55) rfl rfl) d_Model_init_833 (fun H locs hw => ?_)
  refine lv_dup hx hb d_Model_init_834 rfl ?_
  refine lv_bipush (v := 56) hx hb d_Model_init_835 (by decide) ?_
  refine lv_bipush (v := 97) hx hb d_Model_init_837 (by decide) ?_
  refine n_iastE K hw (inB_vp (n := 96) (by decide)) (tkF_next wordsL (k := 56) rfl rfl) d_Model_init_839 (fun H locs hw => ?_)
  refine lv_dup hx hb d_Model_init_840 rfl ?_
  refine lv_bipush (v := 57) hx hb d_Model_init_841 (by decide) ?_
  refine lv_bipush (v := 110) hx hb d_Model_init_843 (by decide) ?_
  refine n_iastE K hw (inB_vp (n := 96) (by decide)) (tkF_next wordsL (k := 57) rfl rfl) d_Model_init_845 (fun H locs hw => ?_)
  refine lv_dup hx hb d_Model_init_846 rfl ?_
  refine lv_bipush (v := 58) hx hb d_Model_init_847 (by decide) ?_
  refine lv_bipush (v := 103) hx hb d_Model_init_849 (by decide) ?_
  refine n_iastE K hw (inB_vp (n := 96) (by decide)) (tkF_next wordsL (k := 58) rfl rfl) d_Model_init_851 (fun H locs hw => ?_)
  refine lv_dup hx hb d_Model_init_852 rfl ?_
  refine lv_bipush (v := 59) hx hb d_Model_init_853 (by decide) ?_
  refine lv_bipush (v := 108) hx hb d_Model_init_855 (by decide) ?_
  refine n_iastE K hw (inB_vp (n := 96) (by decide)) (tkF_next wordsL (k := 59) rfl rfl) d_Model_init_857 (fun H locs hw => ?_)
  refine lv_dup hx hb d_Model_init_858 rfl ?_
  refine lv_bipush (v := 60) hx hb d_Model_init_859 (by decide) ?_
  refine lv_bipush (v := 101) hx hb d_Model_init_861 (by decide) ?_
  refine n_iastE K hw (inB_vp (n := 96) (by decide)) (tkF_next wordsL (k := 60) rfl rfl) d_Model_init_863 (fun H locs hw => ?_)
  refine lv_dup hx hb d_Model_init_864 rfl ?_
  refine lv_bipush (v := 61) hx hb d_Model_init_865 (by decide) ?_
  refine lv_bipush (v := 32) hx hb d_Model_init_867 (by decide) ?_
  refine n_iastE K hw (inB_vp (n := 96) (by decide)) (tkF_next wordsL (k := 61) rfl rfl) d_Model_init_869 (fun H locs hw => ?_)
  refine lv_dup hx hb d_Model_init_870 rfl ?_
  refine lv_bipush (v := 62) hx hb d_Model_init_871 (by decide) ?_
  refine lv_bipush (v := 32) hx hb d_Model_init_873 (by decide) ?_
  refine n_iastE K hw (inB_vp (n := 96) (by decide)) (tkF_next wordsL (k := 62) rfl rfl) d_Model_init_875 (fun H locs hw => ?_)
  refine lv_dup hx hb d_Model_init_876 rfl ?_
  refine lv_bipush (v := 63) hx hb d_Model_init_877 (by decide) ?_
  refine lv_bipush (v := 32) hx hb d_Model_init_879 (by decide) ?_
  refine n_iastE K hw (inB_vp (n := 96) (by decide)) (tkF_next wordsL (k := 63) rfl rfl) d_Model_init_881 (fun H locs hw => ?_)
  refine lv_dup hx hb d_Model_init_882 rfl ?_
  refine lv_bipush (v := 64) hx hb d_Model_init_883 (by decide) ?_
  refine lv_bipush (v := 116) hx hb d_Model_init_885 (by decide) ?_
  refine n_iastE K hw (inB_vp (n := 96) (by decide)) (tkF_next wordsL (k := 64) rfl rfl) d_Model_init_887 (fun H locs hw => ?_)
  refine lv_dup hx hb d_Model_init_888 rfl ?_
  refine lv_bipush (v := 65) hx hb d_Model_init_889 (by decide) ?_
  refine lv_bipush (v := 101) hx hb d_Model_init_891 (by decide) ?_
  refine n_iastE K hw (inB_vp (n := 96) (by decide)) (tkF_next wordsL (k := 65) rfl rfl) d_Model_init_893 (fun H locs hw => ?_)
  refine lv_dup hx hb d_Model_init_894 rfl ?_
  refine lv_bipush (v := 66) hx hb d_Model_init_895 (by decide) ?_
  refine lv_bipush (v := 110) hx hb d_Model_init_897 (by decide) ?_
  refine n_iastE K hw (inB_vp (n := 96) (by decide)) (tkF_next wordsL (k := 66) rfl rfl) d_Model_init_899 (fun H locs hw => ?_)
  refine lv_dup hx hb d_Model_init_900 rfl ?_
  refine lv_bipush (v := 67) hx hb d_Model_init_901 (by decide) ?_
  refine lv_bipush (v := 116) hx hb d_Model_init_903 (by decide) ?_
  refine n_iastE K hw (inB_vp (n := 96) (by decide)) (tkF_next wordsL (k := 67) rfl rfl) d_Model_init_905 (fun H locs hw => ?_)
  refine lv_dup hx hb d_Model_init_906 rfl ?_
  refine lv_bipush (v := 68) hx hb d_Model_init_907 (by decide) ?_
  refine lv_bipush (v := 104) hx hb d_Model_init_909 (by decide) ?_
  refine n_iastE K hw (inB_vp (n := 96) (by decide)) (tkF_next wordsL (k := 68) rfl rfl) d_Model_init_911 (fun H locs hw => ?_)
  refine lv_dup hx hb d_Model_init_912 rfl ?_
  refine lv_bipush (v := 69) hx hb d_Model_init_913 (by decide) ?_
  refine lv_bipush (v := 32) hx hb d_Model_init_915 (by decide) ?_
  refine n_iastE K hw (inB_vp (n := 96) (by decide)) (tkF_next wordsL (k := 69) rfl rfl) d_Model_init_917 (fun H locs hw => ?_)
  refine lv_dup hx hb d_Model_init_918 rfl ?_
  refine lv_bipush (v := 70) hx hb d_Model_init_919 (by decide) ?_
  refine lv_bipush (v := 32) hx hb d_Model_init_921 (by decide) ?_
  refine n_iastE K hw (inB_vp (n := 96) (by decide)) (tkF_next wordsL (k := 70) rfl rfl) d_Model_init_923 (fun H locs hw => ?_)
  refine lv_dup hx hb d_Model_init_924 rfl ?_
  refine lv_bipush (v := 71) hx hb d_Model_init_925 (by decide) ?_
  refine lv_bipush (v := 32) hx hb d_Model_init_927 (by decide) ?_
  refine n_iastE K hw (inB_vp (n := 96) (by decide)) (tkF_next wordsL (k := 71) rfl rfl) d_Model_init_929 (fun H locs hw => ?_)
  refine lv_dup hx hb d_Model_init_930 rfl ?_
  refine lv_bipush (v := 72) hx hb d_Model_init_931 (by decide) ?_
  refine lv_bipush (v := 111) hx hb d_Model_init_933 (by decide) ?_
  refine n_iastE K hw (inB_vp (n := 96) (by decide)) (tkF_next wordsL (k := 72) rfl rfl) d_Model_init_935 (fun H locs hw => ?_)
  refine lv_dup hx hb d_Model_init_936 rfl ?_
  refine lv_bipush (v := 73) hx hb d_Model_init_937 (by decide) ?_
  refine lv_bipush (v := 114) hx hb d_Model_init_939 (by decide) ?_
  refine n_iastE K hw (inB_vp (n := 96) (by decide)) (tkF_next wordsL (k := 73) rfl rfl) d_Model_init_941 (fun H locs hw => ?_)
  refine lv_dup hx hb d_Model_init_942 rfl ?_
  refine lv_bipush (v := 74) hx hb d_Model_init_943 (by decide) ?_
  refine lv_bipush (v := 32) hx hb d_Model_init_945 (by decide) ?_
  refine n_iastE K hw (inB_vp (n := 96) (by decide)) (tkF_next wordsL (k := 74) rfl rfl) d_Model_init_947 (fun H locs hw => ?_)
  refine lv_dup hx hb d_Model_init_948 rfl ?_
  refine lv_bipush (v := 75) hx hb d_Model_init_949 (by decide) ?_
  refine lv_bipush (v := 32) hx hb d_Model_init_951 (by decide) ?_
  refine n_iastE K hw (inB_vp (n := 96) (by decide)) (tkF_next wordsL (k := 75) rfl rfl) d_Model_init_953 (fun H locs hw => ?_)
  refine lv_dup hx hb d_Model_init_954 rfl ?_
  refine lv_bipush (v := 76) hx hb d_Model_init_955 (by decide) ?_
  refine lv_bipush (v := 32) hx hb d_Model_init_957 (by decide) ?_
  refine n_iastE K hw (inB_vp (n := 96) (by decide)) (tkF_next wordsL (k := 76) rfl rfl) d_Model_init_959 (fun H locs hw => ?_)
  refine lv_dup hx hb d_Model_init_960 rfl ?_
  refine lv_bipush (v := 77) hx hb d_Model_init_961 (by decide) ?_
  refine lv_bipush (v := 32) hx hb d_Model_init_963 (by decide) ?_
  refine n_iastE K hw (inB_vp (n := 96) (by decide)) (tkF_next wordsL (k := 77) rfl rfl) d_Model_init_965 (fun H locs hw => ?_)
  refine lv_dup hx hb d_Model_init_966 rfl ?_
  refine lv_bipush (v := 78) hx hb d_Model_init_967 (by decide) ?_
  refine lv_bipush (v := 32) hx hb d_Model_init_969 (by decide) ?_
  refine n_iastE K hw (inB_vp (n := 96) (by decide)) (tkF_next wordsL (k := 78) rfl rfl) d_Model_init_971 (fun H locs hw => ?_)
  refine lv_dup hx hb d_Model_init_972 rfl ?_
  refine lv_bipush (v := 79) hx hb d_Model_init_973 (by decide) ?_
  refine lv_bipush (v := 32) hx hb d_Model_init_975 (by decide) ?_
  refine n_iastE K hw (inB_vp (n := 96) (by decide)) (tkF_next wordsL (k := 79) rfl rfl) d_Model_init_977 (fun H locs hw => ?_)
  refine lv_dup hx hb d_Model_init_978 rfl ?_
  refine lv_bipush (v := 80) hx hb d_Model_init_979 (by decide) ?_
  refine lv_bipush (v := 97) hx hb d_Model_init_981 (by decide) ?_
  refine n_iastE K hw (inB_vp (n := 96) (by decide)) (tkF_next wordsL (k := 80) rfl rfl) d_Model_init_983 (fun H locs hw => ?_)
  refine lv_dup hx hb d_Model_init_984 rfl ?_
  refine lv_bipush (v := 81) hx hb d_Model_init_985 (by decide) ?_
  refine lv_bipush (v := 110) hx hb d_Model_init_987 (by decide) ?_
  refine n_iastE K hw (inB_vp (n := 96) (by decide)) (tkF_next wordsL (k := 81) rfl rfl) d_Model_init_989 (fun H locs hw => ?_)
  refine lv_dup hx hb d_Model_init_990 rfl ?_
  refine lv_bipush (v := 82) hx hb d_Model_init_991 (by decide) ?_
  refine lv_bipush (v := 100) hx hb d_Model_init_993 (by decide) ?_
  refine n_iastE K hw (inB_vp (n := 96) (by decide)) (tkF_next wordsL (k := 82) rfl rfl) d_Model_init_995 (fun H locs hw => ?_)
  refine lv_dup hx hb d_Model_init_996 rfl ?_
  refine lv_bipush (v := 83) hx hb d_Model_init_997 (by decide) ?_
  refine lv_bipush (v := 32) hx hb d_Model_init_999 (by decide) ?_
  refine n_iastE K hw (inB_vp (n := 96) (by decide)) (tkF_next wordsL (k := 83) rfl rfl) d_Model_init_1001 (fun H locs hw => ?_)
  refine lv_dup hx hb d_Model_init_1002 rfl ?_
  refine lv_bipush (v := 84) hx hb d_Model_init_1003 (by decide) ?_
  refine lv_bipush (v := 32) hx hb d_Model_init_1005 (by decide) ?_
  refine n_iastE K hw (inB_vp (n := 96) (by decide)) (tkF_next wordsL (k := 84) rfl rfl) d_Model_init_1007 (fun H locs hw => ?_)
  refine lv_dup hx hb d_Model_init_1008 rfl ?_
  refine lv_bipush (v := 85) hx hb d_Model_init_1009 (by decide) ?_
  refine lv_bipush (v := 32) hx hb d_Model_init_1011 (by decide) ?_
  refine n_iastE K hw (inB_vp (n := 96) (by decide)) (tkF_next wordsL (k := 85) rfl rfl) d_Model_init_1013 (fun H locs hw => ?_)
  refine lv_dup hx hb d_Model_init_1014 rfl ?_
  refine lv_bipush (v := 86) hx hb d_Model_init_1015 (by decide) ?_
  refine lv_bipush (v := 32) hx hb d_Model_init_1017 (by decide) ?_
  refine n_iastE K hw (inB_vp (n := 96) (by decide)) (tkF_next wordsL (k := 86) rfl rfl) d_Model_init_1019 (fun H locs hw => ?_)
  refine lv_dup hx hb d_Model_init_1020 rfl ?_
  refine lv_bipush (v := 87) hx hb d_Model_init_1021 (by decide) ?_
  refine lv_bipush (v := 32) hx hb d_Model_init_1023 (by decide) ?_
  refine n_iastE K hw (inB_vp (n := 96) (by decide)) (tkF_next wordsL (k := 87) rfl rfl) d_Model_init_1025 (fun H locs hw => ?_)
  refine lv_dup hx hb d_Model_init_1026 rfl ?_
  refine lv_bipush (v := 88) hx hb d_Model_init_1027 (by decide) ?_
  refine lv_bipush (v := 110) hx hb d_Model_init_1029 (by decide) ?_
  refine n_iastE K hw (inB_vp (n := 96) (by decide)) (tkF_next wordsL (k := 88) rfl rfl) d_Model_init_1031 (fun H locs hw => ?_)
  refine lv_dup hx hb d_Model_init_1032 rfl ?_
  refine lv_bipush (v := 89) hx hb d_Model_init_1033 (by decide) ?_
  refine lv_bipush (v := 111) hx hb d_Model_init_1035 (by decide) ?_
  refine n_iastE K hw (inB_vp (n := 96) (by decide)) (tkF_next wordsL (k := 89) rfl rfl) d_Model_init_1037 (fun H locs hw => ?_)
  refine lv_dup hx hb d_Model_init_1038 rfl ?_
  refine lv_bipush (v := 90) hx hb d_Model_init_1039 (by decide) ?_
  refine lv_bipush (v := 116) hx hb d_Model_init_1041 (by decide) ?_
  refine n_iastE K hw (inB_vp (n := 96) (by decide)) (tkF_next wordsL (k := 90) rfl rfl) d_Model_init_1043 (fun H locs hw => ?_)
  refine lv_dup hx hb d_Model_init_1044 rfl ?_
  refine lv_bipush (v := 91) hx hb d_Model_init_1045 (by decide) ?_
  refine lv_bipush (v := 32) hx hb d_Model_init_1047 (by decide) ?_
  refine n_iastE K hw (inB_vp (n := 96) (by decide)) (tkF_next wordsL (k := 91) rfl rfl) d_Model_init_1049 (fun H locs hw => ?_)
  refine lv_dup hx hb d_Model_init_1050 rfl ?_
  refine lv_bipush (v := 92) hx hb d_Model_init_1051 (by decide) ?_
  refine lv_bipush (v := 32) hx hb d_Model_init_1053 (by decide) ?_
  refine n_iastE K hw (inB_vp (n := 96) (by decide)) (tkF_next wordsL (k := 92) rfl rfl) d_Model_init_1055 (fun H locs hw => ?_)
  refine lv_dup hx hb d_Model_init_1056 rfl ?_
  refine lv_bipush (v := 93) hx hb d_Model_init_1057 (by decide) ?_
  refine lv_bipush (v := 32) hx hb d_Model_init_1059 (by decide) ?_
  refine n_iastE K hw (inB_vp (n := 96) (by decide)) (tkF_next wordsL (k := 93) rfl rfl) d_Model_init_1061 (fun H locs hw => ?_)
  refine lv_dup hx hb d_Model_init_1062 rfl ?_
  refine lv_bipush (v := 94) hx hb d_Model_init_1063 (by decide) ?_
  refine lv_bipush (v := 32) hx hb d_Model_init_1065 (by decide) ?_
  refine n_iastE K hw (inB_vp (n := 96) (by decide)) (tkF_next wordsL (k := 94) rfl rfl) d_Model_init_1067 (fun H locs hw => ?_)
  refine lv_dup hx hb d_Model_init_1068 rfl ?_
  refine lv_bipush (v := 95) hx hb d_Model_init_1069 (by decide) ?_
  refine lv_bipush (v := 32) hx hb d_Model_init_1071 (by decide) ?_
  refine n_iastE K hw (inB_vp (n := 96) (by decide)) (tkF_next wordsL (k := 95) rfl rfl) d_Model_init_1073 (fun H locs hw => ?_)
  exact kk _ _ hw
set_option maxHeartbeats 4000000 in
set_option maxRecDepth 100000 in
theorem loop_Model_init (K : Fx p s m args meth c b_Model_init 2 R_Model none) {h0 q1 q2 q3 q4 q5 q6 q7 q8 q9 q10 q11 q12 q13 q14 q15 q16 q17 q18 q19 : Nat} (kk : ∀ (H : Heap) (locs : List Loc) (ls : Array Slot), lv_has ls 2 [(0, .ref h0)] → Wn D cA A s [(h0, oB 11 [.int 0, .ref q1, .ref q2, .ref q3, .ref q4, .ref q5, .ref q6, .int 0, .ref q7, .ref q8, .int 0, .int 0, .int 0, .int 0, .int 0, .ref q9, .ref q10, .ref q11, .ref q12, .ref q13, .ref q14, .int 0, .int 0, .int 0, .int 0, .ref q15, .ref q16, .int 0, .int 0, .int 0, .ref q17, .ref q18, .int 0, .int 0, .int 0, .int 0, .int 0, .int 0, .int 0, .int 0, .int 0, .int 0, .int 0, .int 0, .ref q19]), (q1, aI (cA 0) 6 (fun _ => 0)), (q2, aI (cA 0) 6 (fun _ => 0)), (q3, aI (cA 0) 6 (fun _ => 0)), (q4, aI (cA 0) 6 (fun _ => 0)), (q5, aI (cA 0) 6 (fun _ => 0)), (q6, aI (cA 0) 160 (tkF LAWL 62)), (q7, aI (cA 0) 1200 (fun _ => 0)), (q8, aI (cA 0) 24 (fun _ => 0)), (q9, aI (cA 0) 6 (fun _ => 0)), (q10, aI (cA 0) 6 (fun _ => 0)), (q11, aI (cA 0) 4 (tkF M1L 4)), (q12, aI (cA 0) 4 (fun _ => 0)), (q13, aI (cA 0) 160 (fun _ => 0)), (q14, aI (cA 0) 62 (tkF LAWL 62)), (q15, aI (cA 0) 96 (tkF wordsL 96)), (q16, aI (cA 0) 200 (fun _ => 0)), (q17, aI (cA 0) 200 (fun _ => 0)), (q18, aI (cA 0) 6 (fun _ => 0)), (q19, aI (cA 0) 6 (fun _ => 0))] H locs → W p l e R s m args below meth c H locs cells slots Q (F0 m 1137 ls [])) : ∀ (n k : Nat), k + n = 62 → ∀ (H : Heap) (locs : List Loc) (ls : Array Slot), lv_has ls 2 [(1, .int (nI k)), (0, .ref h0)] → Wn D cA A s [(h0, oB 11 [.int 0, .ref q1, .ref q2, .ref q3, .ref q4, .ref q5, .ref q6, .int 0, .ref q7, .ref q8, .int 0, .int 0, .int 0, .int 0, .int 0, .ref q9, .ref q10, .ref q11, .ref q12, .ref q13, .ref q14, .int 0, .int 0, .int 0, .int 0, .ref q15, .ref q16, .int 0, .int 0, .int 0, .ref q17, .ref q18, .int 0, .int 0, .int 0, .int 0, .int 0, .int 0, .int 0, .int 0, .int 0, .int 0, .int 0, .int 0, .ref q19]), (q1, aI (cA 0) 6 (fun _ => 0)), (q2, aI (cA 0) 6 (fun _ => 0)), (q3, aI (cA 0) 6 (fun _ => 0)), (q4, aI (cA 0) 6 (fun _ => 0)), (q5, aI (cA 0) 6 (fun _ => 0)), (q6, aI (cA 0) 160 (tkF LAWL k)), (q7, aI (cA 0) 1200 (fun _ => 0)), (q8, aI (cA 0) 24 (fun _ => 0)), (q9, aI (cA 0) 6 (fun _ => 0)), (q10, aI (cA 0) 6 (fun _ => 0)), (q11, aI (cA 0) 4 (tkF M1L 4)), (q12, aI (cA 0) 4 (fun _ => 0)), (q13, aI (cA 0) 160 (fun _ => 0)), (q14, aI (cA 0) 62 (tkF LAWL 62)), (q15, aI (cA 0) 96 (tkF wordsL 96)), (q16, aI (cA 0) 200 (fun _ => 0)), (q17, aI (cA 0) 200 (fun _ => 0)), (q18, aI (cA 0) 6 (fun _ => 0)), (q19, aI (cA 0) 6 (fun _ => 0))] H locs → W p l e R s m args below meth c H locs cells slots Q (F0 m 1113 ls []) := by
  have hx := K.1.1; have hb := K.1.2.1
  intro n
  induction n with
  | zero =>
    intro k hk H locs ls hl hw
    have e : k = 62 := by omega
    subst e
    refine lv_iload_n hx hb d_Model_init_1113 rfl (lv_at hl 0 rfl) ?_
    refine lv_bipush (v := 62) hx hb d_Model_init_1114 (by decide) ?_
    refine lv_icmp_ge (tgt := 1137) hx hb d_Model_init_1116 (by decide) (fun _ => ?_) (fun c_ => absurd (by decide) c_)
    exact kk _ _ _ (lv_sub hl [1] rfl) hw
  | succ n ih =>
    intro k hk H locs ls hl hw
    refine lv_iload_n hx hb d_Model_init_1113 rfl (lv_at hl 0 rfl) ?_
    refine lv_bipush (v := 62) hx hb d_Model_init_1114 (by decide) ?_
    refine lv_icmp_ge (tgt := 1137) hx hb d_Model_init_1116 (by decide) (fun c_ => absurd c_ (Int32.not_le.mpr (nI_lt (b := 62) (by omega) (by decide)))) (fun _ => ?_)
    refine lv_aload_n hx hb d_Model_init_1119 rfl (lv_at hl 1 rfl) ?_
    refine n_get K hw i_Model 0 rfl rfl 6 (by decide) w_1031 rfl rfl d_Model_init_1120 ?_
    refine lv_iload_n hx hb d_Model_init_1123 rfl (lv_at hl 0 rfl) ?_
    refine lv_aload_n hx hb d_Model_init_1124 rfl (lv_at hl 1 rfl) ?_
    refine n_get K hw i_Model 0 rfl rfl 20 (by decide) w_1045 rfl rfl d_Model_init_1125 ?_
    refine lv_iload_n hx hb d_Model_init_1128 rfl (lv_at hl 0 rfl) ?_
    refine n_iald K hw 14 rfl (inB_vp (inB_nI (n := 62) (by omega) (by decide))) d_Model_init_1129 ?_
    refine n_iastF K hw 6 rfl (inB_vp (inB_nI (n := 160) (by omega) (by decide))) (tkF_next LAWL (k := k) (nI_clamp (by omega)) (by rw [nI_clamp (by omega), tkF_at (by omega)])) d_Model_init_1130 (fun H locs hw => ?_)
    refine lv_iinc (v := nI (k + 1)) (lv' := [(1, .int (nI (k + 1))), (0, .ref h0)]) hx hb d_Model_init_1131 hl (k := 0) rfl (nI_1 k) (by decide) rfl (fun ls hl => ?_)
    refine lv_goto (tgt := 1113) hx hb d_Model_init_1134 (by decide) ?_
    exact ih (k + 1) (by omega) _ _ _ hl hw
end MI_
theorem Wd_muB {cA : Nat → ClassId} {adc : Nat → Nat} {h0 q1 q2 q3 q4 q5 q6 q7 q8 q9 q10 q11 q12 q13 q14 q15 q16 q17 q18 q19 : Nat} : Wd cA (mkU [h0, q1, q2, q3, q4, q5, q6, q7, q8, q9, q10, q11, q12, q13, q14, q15, q16, q17, q18, q19] adc) shM muB = [(h0, oB 11 [.int 0, .ref q1, .ref q2, .ref q3, .ref q4, .ref q5, .ref q6, .int 62, .ref q7, .ref q8, .int 0, .int 0, .int 0, .int 0, .int 0, .ref q9, .ref q10, .ref q11, .ref q12, .ref q13, .ref q14, .int 0, .int 0, .int 0, .int 0, .ref q15, .ref q16, .int 0, .int 0, .int 0, .ref q17, .ref q18, .int 0, .int 0, .int 0, .int 0, .int 0, .int 0, .int 0, .int 0, .int 0, .int 0, .int 0, .int 0, .ref q19]), (q1, aI (cA 0) 6 (fun _ => 0)), (q2, aI (cA 0) 6 (fun _ => 0)), (q3, aI (cA 0) 6 (fun _ => 0)), (q4, aI (cA 0) 6 (fun _ => 0)), (q5, aI (cA 0) 6 (fun _ => 0)), (q6, aI (cA 0) 160 (tkF LAWL 62)), (q7, aI (cA 0) 1200 (fun _ => 0)), (q8, aI (cA 0) 24 (fun _ => 0)), (q9, aI (cA 0) 6 (fun _ => 0)), (q10, aI (cA 0) 6 (fun _ => 0)), (q11, aI (cA 0) 4 (tkF M1L 4)), (q12, aI (cA 0) 4 (fun _ => 0)), (q13, aI (cA 0) 160 (fun _ => 0)), (q14, aI (cA 0) 62 (tkF LAWL 62)), (q15, aI (cA 0) 96 (tkF wordsL 96)), (q16, aI (cA 0) 200 (fun _ => 0)), (q17, aI (cA 0) 200 (fun _ => 0)), (q18, aI (cA 0) 6 (fun _ => 0)), (q19, aI (cA 0) 6 (fun _ => 0))] := by
  rw [Wd_M]
  rfl
set_option maxHeartbeats 8000000 in
set_option maxRecDepth 100000 in
theorem c_Model_init {l : Launch} {D : va_G} {cA : Nat → ClassId} {adc : Nat → Nat} {r : Int32} {τ : St} (hF : F_Model_text muB = some (r, τ)) : MCC l D cA adc y_Model_init (wT y_Model_init b_Model_init 2 none) rm_Model_init (oB 11 [.int 0, .null, .null, .null, .null, .null, .null, .int 0, .null, .null, .int 0, .int 0, .int 0, .int 0, .int 0, .null, .null, .null, .null, .null, .null, .int 0, .int 0, .int 0, .int 0, .null, .null, .int 0, .int 0, .int 0, .null, .null, .int 0, .int 0, .int 0, .int 0, .int 0, .int 0, .int 0, .int 0, .int 0, .int 0, .int 0, .int 0, .null]) 0 shM τ 19 2164 := by
  refine cc_start (by decide +kernel) rfl w_cModel (fun _ => Nat.le_of_ble_eq_true rfl) ?_
  intro h0 p e s m below meth c ls K hm hl hw hC hO
  have hx := K.1.1; have hb := K.1.2.1
  refine lv_aload_n hx hb d_Model_init_0 rfl (lv_at hl 0 rfl) ?_
  refine n_obj K hl.1 w_977 w_o2 w_o3 (by decide) (by decide) d_Model_init_1 ?_
  refine lv_aload_n hx hb d_Model_init_4 rfl (lv_at hl 0 rfl) ?_
  refine lv_bipush (v := 6) hx hb d_Model_init_5 (by decide) ?_
  refine n_newi K hw 6 (by decide) (by decide) (by decide) (by decide) (by decide) d_Model_init_7 (fun q1 H hw => ?_)
  have hw : Wn D cA _ s [(h0, oB 11 [.int 0, .null, .null, .null, .null, .null, .null, .int 0, .null, .null, .int 0, .int 0, .int 0, .int 0, .int 0, .null, .null, .null, .null, .null, .null, .int 0, .int 0, .int 0, .int 0, .null, .null, .int 0, .int 0, .int 0, .null, .null, .int 0, .int 0, .int 0, .int 0, .int 0, .int 0, .int 0, .int 0, .int 0, .int 0, .int 0, .int 0, .null]), (q1, aI (cA 0) 6 (fun _ => 0))] H _ := hw
  refine n_putF K hm hw i_Model t_Model t_Model_ok n_Model 0 rfl rfl 1 (by decide) w_1026 rfl rfl rfl rfl rfl (Nat.le_of_ble_eq_true rfl) d_Model_init_9 (fun H locs hw => ?_)
  have hw : Wn D cA _ s [(h0, oB 11 [.int 0, .ref q1, .null, .null, .null, .null, .null, .int 0, .null, .null, .int 0, .int 0, .int 0, .int 0, .int 0, .null, .null, .null, .null, .null, .null, .int 0, .int 0, .int 0, .int 0, .null, .null, .int 0, .int 0, .int 0, .null, .null, .int 0, .int 0, .int 0, .int 0, .int 0, .int 0, .int 0, .int 0, .int 0, .int 0, .int 0, .int 0, .null]), (q1, aI (cA 0) 6 (fun _ => 0))] H _ := hw
  refine lv_aload_n hx hb d_Model_init_12 rfl (lv_at hl 0 rfl) ?_
  refine lv_bipush (v := 6) hx hb d_Model_init_13 (by decide) ?_
  refine n_newi K hw 6 (by decide) (by decide) (by decide) (by decide) (by decide) d_Model_init_15 (fun q2 H hw => ?_)
  have hw : Wn D cA _ s [(h0, oB 11 [.int 0, .ref q1, .null, .null, .null, .null, .null, .int 0, .null, .null, .int 0, .int 0, .int 0, .int 0, .int 0, .null, .null, .null, .null, .null, .null, .int 0, .int 0, .int 0, .int 0, .null, .null, .int 0, .int 0, .int 0, .null, .null, .int 0, .int 0, .int 0, .int 0, .int 0, .int 0, .int 0, .int 0, .int 0, .int 0, .int 0, .int 0, .null]), (q1, aI (cA 0) 6 (fun _ => 0)), (q2, aI (cA 0) 6 (fun _ => 0))] H _ := hw
  refine n_putF K hm hw i_Model t_Model t_Model_ok n_Model 0 rfl rfl 2 (by decide) w_1027 rfl rfl rfl rfl rfl (Nat.le_of_ble_eq_true rfl) d_Model_init_17 (fun H locs hw => ?_)
  have hw : Wn D cA _ s [(h0, oB 11 [.int 0, .ref q1, .ref q2, .null, .null, .null, .null, .int 0, .null, .null, .int 0, .int 0, .int 0, .int 0, .int 0, .null, .null, .null, .null, .null, .null, .int 0, .int 0, .int 0, .int 0, .null, .null, .int 0, .int 0, .int 0, .null, .null, .int 0, .int 0, .int 0, .int 0, .int 0, .int 0, .int 0, .int 0, .int 0, .int 0, .int 0, .int 0, .null]), (q1, aI (cA 0) 6 (fun _ => 0)), (q2, aI (cA 0) 6 (fun _ => 0))] H _ := hw
  refine lv_aload_n hx hb d_Model_init_20 rfl (lv_at hl 0 rfl) ?_
  refine lv_bipush (v := 6) hx hb d_Model_init_21 (by decide) ?_
  refine n_newi K hw 6 (by decide) (by decide) (by decide) (by decide) (by decide) d_Model_init_23 (fun q3 H hw => ?_)
  have hw : Wn D cA _ s [(h0, oB 11 [.int 0, .ref q1, .ref q2, .null, .null, .null, .null, .int 0, .null, .null, .int 0, .int 0, .int 0, .int 0, .int 0, .null, .null, .null, .null, .null, .null, .int 0, .int 0, .int 0, .int 0, .null, .null, .int 0, .int 0, .int 0, .null, .null, .int 0, .int 0, .int 0, .int 0, .int 0, .int 0, .int 0, .int 0, .int 0, .int 0, .int 0, .int 0, .null]), (q1, aI (cA 0) 6 (fun _ => 0)), (q2, aI (cA 0) 6 (fun _ => 0)), (q3, aI (cA 0) 6 (fun _ => 0))] H _ := hw
  refine n_putF K hm hw i_Model t_Model t_Model_ok n_Model 0 rfl rfl 3 (by decide) w_1028 rfl rfl rfl rfl rfl (Nat.le_of_ble_eq_true rfl) d_Model_init_25 (fun H locs hw => ?_)
  have hw : Wn D cA _ s [(h0, oB 11 [.int 0, .ref q1, .ref q2, .ref q3, .null, .null, .null, .int 0, .null, .null, .int 0, .int 0, .int 0, .int 0, .int 0, .null, .null, .null, .null, .null, .null, .int 0, .int 0, .int 0, .int 0, .null, .null, .int 0, .int 0, .int 0, .null, .null, .int 0, .int 0, .int 0, .int 0, .int 0, .int 0, .int 0, .int 0, .int 0, .int 0, .int 0, .int 0, .null]), (q1, aI (cA 0) 6 (fun _ => 0)), (q2, aI (cA 0) 6 (fun _ => 0)), (q3, aI (cA 0) 6 (fun _ => 0))] H _ := hw
  refine lv_aload_n hx hb d_Model_init_28 rfl (lv_at hl 0 rfl) ?_
  refine lv_bipush (v := 6) hx hb d_Model_init_29 (by decide) ?_
  refine n_newi K hw 6 (by decide) (by decide) (by decide) (by decide) (by decide) d_Model_init_31 (fun q4 H hw => ?_)
  have hw : Wn D cA _ s [(h0, oB 11 [.int 0, .ref q1, .ref q2, .ref q3, .null, .null, .null, .int 0, .null, .null, .int 0, .int 0, .int 0, .int 0, .int 0, .null, .null, .null, .null, .null, .null, .int 0, .int 0, .int 0, .int 0, .null, .null, .int 0, .int 0, .int 0, .null, .null, .int 0, .int 0, .int 0, .int 0, .int 0, .int 0, .int 0, .int 0, .int 0, .int 0, .int 0, .int 0, .null]), (q1, aI (cA 0) 6 (fun _ => 0)), (q2, aI (cA 0) 6 (fun _ => 0)), (q3, aI (cA 0) 6 (fun _ => 0)), (q4, aI (cA 0) 6 (fun _ => 0))] H _ := hw
  refine n_putF K hm hw i_Model t_Model t_Model_ok n_Model 0 rfl rfl 4 (by decide) w_1029 rfl rfl rfl rfl rfl (Nat.le_of_ble_eq_true rfl) d_Model_init_33 (fun H locs hw => ?_)
  have hw : Wn D cA _ s [(h0, oB 11 [.int 0, .ref q1, .ref q2, .ref q3, .ref q4, .null, .null, .int 0, .null, .null, .int 0, .int 0, .int 0, .int 0, .int 0, .null, .null, .null, .null, .null, .null, .int 0, .int 0, .int 0, .int 0, .null, .null, .int 0, .int 0, .int 0, .null, .null, .int 0, .int 0, .int 0, .int 0, .int 0, .int 0, .int 0, .int 0, .int 0, .int 0, .int 0, .int 0, .null]), (q1, aI (cA 0) 6 (fun _ => 0)), (q2, aI (cA 0) 6 (fun _ => 0)), (q3, aI (cA 0) 6 (fun _ => 0)), (q4, aI (cA 0) 6 (fun _ => 0))] H _ := hw
  refine lv_aload_n hx hb d_Model_init_36 rfl (lv_at hl 0 rfl) ?_
  refine lv_bipush (v := 6) hx hb d_Model_init_37 (by decide) ?_
  refine n_newi K hw 6 (by decide) (by decide) (by decide) (by decide) (by decide) d_Model_init_39 (fun q5 H hw => ?_)
  have hw : Wn D cA _ s [(h0, oB 11 [.int 0, .ref q1, .ref q2, .ref q3, .ref q4, .null, .null, .int 0, .null, .null, .int 0, .int 0, .int 0, .int 0, .int 0, .null, .null, .null, .null, .null, .null, .int 0, .int 0, .int 0, .int 0, .null, .null, .int 0, .int 0, .int 0, .null, .null, .int 0, .int 0, .int 0, .int 0, .int 0, .int 0, .int 0, .int 0, .int 0, .int 0, .int 0, .int 0, .null]), (q1, aI (cA 0) 6 (fun _ => 0)), (q2, aI (cA 0) 6 (fun _ => 0)), (q3, aI (cA 0) 6 (fun _ => 0)), (q4, aI (cA 0) 6 (fun _ => 0)), (q5, aI (cA 0) 6 (fun _ => 0))] H _ := hw
  refine n_putF K hm hw i_Model t_Model t_Model_ok n_Model 0 rfl rfl 5 (by decide) w_1030 rfl rfl rfl rfl rfl (Nat.le_of_ble_eq_true rfl) d_Model_init_41 (fun H locs hw => ?_)
  have hw : Wn D cA _ s [(h0, oB 11 [.int 0, .ref q1, .ref q2, .ref q3, .ref q4, .ref q5, .null, .int 0, .null, .null, .int 0, .int 0, .int 0, .int 0, .int 0, .null, .null, .null, .null, .null, .null, .int 0, .int 0, .int 0, .int 0, .null, .null, .int 0, .int 0, .int 0, .null, .null, .int 0, .int 0, .int 0, .int 0, .int 0, .int 0, .int 0, .int 0, .int 0, .int 0, .int 0, .int 0, .null]), (q1, aI (cA 0) 6 (fun _ => 0)), (q2, aI (cA 0) 6 (fun _ => 0)), (q3, aI (cA 0) 6 (fun _ => 0)), (q4, aI (cA 0) 6 (fun _ => 0)), (q5, aI (cA 0) 6 (fun _ => 0))] H _ := hw
  refine lv_aload_n hx hb d_Model_init_44 rfl (lv_at hl 0 rfl) ?_
  refine lv_sipush (v := 160) hx hb d_Model_init_45 (by decide) ?_
  refine n_newi K hw 160 (by decide) (by decide) (by decide) (by decide) (by decide) d_Model_init_48 (fun q6 H hw => ?_)
  have hw : Wn D cA _ s [(h0, oB 11 [.int 0, .ref q1, .ref q2, .ref q3, .ref q4, .ref q5, .null, .int 0, .null, .null, .int 0, .int 0, .int 0, .int 0, .int 0, .null, .null, .null, .null, .null, .null, .int 0, .int 0, .int 0, .int 0, .null, .null, .int 0, .int 0, .int 0, .null, .null, .int 0, .int 0, .int 0, .int 0, .int 0, .int 0, .int 0, .int 0, .int 0, .int 0, .int 0, .int 0, .null]), (q1, aI (cA 0) 6 (fun _ => 0)), (q2, aI (cA 0) 6 (fun _ => 0)), (q3, aI (cA 0) 6 (fun _ => 0)), (q4, aI (cA 0) 6 (fun _ => 0)), (q5, aI (cA 0) 6 (fun _ => 0)), (q6, aI (cA 0) 160 (fun _ => 0))] H _ := hw
  refine n_putF K hm hw i_Model t_Model t_Model_ok n_Model 0 rfl rfl 6 (by decide) w_1031 rfl rfl rfl rfl rfl (Nat.le_of_ble_eq_true rfl) d_Model_init_50 (fun H locs hw => ?_)
  have hw : Wn D cA _ s [(h0, oB 11 [.int 0, .ref q1, .ref q2, .ref q3, .ref q4, .ref q5, .ref q6, .int 0, .null, .null, .int 0, .int 0, .int 0, .int 0, .int 0, .null, .null, .null, .null, .null, .null, .int 0, .int 0, .int 0, .int 0, .null, .null, .int 0, .int 0, .int 0, .null, .null, .int 0, .int 0, .int 0, .int 0, .int 0, .int 0, .int 0, .int 0, .int 0, .int 0, .int 0, .int 0, .null]), (q1, aI (cA 0) 6 (fun _ => 0)), (q2, aI (cA 0) 6 (fun _ => 0)), (q3, aI (cA 0) 6 (fun _ => 0)), (q4, aI (cA 0) 6 (fun _ => 0)), (q5, aI (cA 0) 6 (fun _ => 0)), (q6, aI (cA 0) 160 (fun _ => 0))] H _ := hw
  refine lv_aload_n hx hb d_Model_init_53 rfl (lv_at hl 0 rfl) ?_
  refine lv_sipush (v := 1200) hx hb d_Model_init_54 (by decide) ?_
  refine n_newi K hw 1200 (by decide) (by decide) (by decide) (by decide) (by decide) d_Model_init_57 (fun q7 H hw => ?_)
  have hw : Wn D cA _ s [(h0, oB 11 [.int 0, .ref q1, .ref q2, .ref q3, .ref q4, .ref q5, .ref q6, .int 0, .null, .null, .int 0, .int 0, .int 0, .int 0, .int 0, .null, .null, .null, .null, .null, .null, .int 0, .int 0, .int 0, .int 0, .null, .null, .int 0, .int 0, .int 0, .null, .null, .int 0, .int 0, .int 0, .int 0, .int 0, .int 0, .int 0, .int 0, .int 0, .int 0, .int 0, .int 0, .null]), (q1, aI (cA 0) 6 (fun _ => 0)), (q2, aI (cA 0) 6 (fun _ => 0)), (q3, aI (cA 0) 6 (fun _ => 0)), (q4, aI (cA 0) 6 (fun _ => 0)), (q5, aI (cA 0) 6 (fun _ => 0)), (q6, aI (cA 0) 160 (fun _ => 0)), (q7, aI (cA 0) 1200 (fun _ => 0))] H _ := hw
  refine n_putF K hm hw i_Model t_Model t_Model_ok n_Model 0 rfl rfl 8 (by decide) w_1033 rfl rfl rfl rfl rfl (Nat.le_of_ble_eq_true rfl) d_Model_init_59 (fun H locs hw => ?_)
  have hw : Wn D cA _ s [(h0, oB 11 [.int 0, .ref q1, .ref q2, .ref q3, .ref q4, .ref q5, .ref q6, .int 0, .ref q7, .null, .int 0, .int 0, .int 0, .int 0, .int 0, .null, .null, .null, .null, .null, .null, .int 0, .int 0, .int 0, .int 0, .null, .null, .int 0, .int 0, .int 0, .null, .null, .int 0, .int 0, .int 0, .int 0, .int 0, .int 0, .int 0, .int 0, .int 0, .int 0, .int 0, .int 0, .null]), (q1, aI (cA 0) 6 (fun _ => 0)), (q2, aI (cA 0) 6 (fun _ => 0)), (q3, aI (cA 0) 6 (fun _ => 0)), (q4, aI (cA 0) 6 (fun _ => 0)), (q5, aI (cA 0) 6 (fun _ => 0)), (q6, aI (cA 0) 160 (fun _ => 0)), (q7, aI (cA 0) 1200 (fun _ => 0))] H _ := hw
  refine lv_aload_n hx hb d_Model_init_62 rfl (lv_at hl 0 rfl) ?_
  refine lv_bipush (v := 24) hx hb d_Model_init_63 (by decide) ?_
  refine n_newi K hw 24 (by decide) (by decide) (by decide) (by decide) (by decide) d_Model_init_65 (fun q8 H hw => ?_)
  have hw : Wn D cA _ s [(h0, oB 11 [.int 0, .ref q1, .ref q2, .ref q3, .ref q4, .ref q5, .ref q6, .int 0, .ref q7, .null, .int 0, .int 0, .int 0, .int 0, .int 0, .null, .null, .null, .null, .null, .null, .int 0, .int 0, .int 0, .int 0, .null, .null, .int 0, .int 0, .int 0, .null, .null, .int 0, .int 0, .int 0, .int 0, .int 0, .int 0, .int 0, .int 0, .int 0, .int 0, .int 0, .int 0, .null]), (q1, aI (cA 0) 6 (fun _ => 0)), (q2, aI (cA 0) 6 (fun _ => 0)), (q3, aI (cA 0) 6 (fun _ => 0)), (q4, aI (cA 0) 6 (fun _ => 0)), (q5, aI (cA 0) 6 (fun _ => 0)), (q6, aI (cA 0) 160 (fun _ => 0)), (q7, aI (cA 0) 1200 (fun _ => 0)), (q8, aI (cA 0) 24 (fun _ => 0))] H _ := hw
  refine n_putF K hm hw i_Model t_Model t_Model_ok n_Model 0 rfl rfl 9 (by decide) w_1034 rfl rfl rfl rfl rfl (Nat.le_of_ble_eq_true rfl) d_Model_init_67 (fun H locs hw => ?_)
  have hw : Wn D cA _ s [(h0, oB 11 [.int 0, .ref q1, .ref q2, .ref q3, .ref q4, .ref q5, .ref q6, .int 0, .ref q7, .ref q8, .int 0, .int 0, .int 0, .int 0, .int 0, .null, .null, .null, .null, .null, .null, .int 0, .int 0, .int 0, .int 0, .null, .null, .int 0, .int 0, .int 0, .null, .null, .int 0, .int 0, .int 0, .int 0, .int 0, .int 0, .int 0, .int 0, .int 0, .int 0, .int 0, .int 0, .null]), (q1, aI (cA 0) 6 (fun _ => 0)), (q2, aI (cA 0) 6 (fun _ => 0)), (q3, aI (cA 0) 6 (fun _ => 0)), (q4, aI (cA 0) 6 (fun _ => 0)), (q5, aI (cA 0) 6 (fun _ => 0)), (q6, aI (cA 0) 160 (fun _ => 0)), (q7, aI (cA 0) 1200 (fun _ => 0)), (q8, aI (cA 0) 24 (fun _ => 0))] H _ := hw
  refine lv_aload_n hx hb d_Model_init_70 rfl (lv_at hl 0 rfl) ?_
  refine lv_bipush (v := 6) hx hb d_Model_init_71 (by decide) ?_
  refine n_newi K hw 6 (by decide) (by decide) (by decide) (by decide) (by decide) d_Model_init_73 (fun q9 H hw => ?_)
  have hw : Wn D cA _ s [(h0, oB 11 [.int 0, .ref q1, .ref q2, .ref q3, .ref q4, .ref q5, .ref q6, .int 0, .ref q7, .ref q8, .int 0, .int 0, .int 0, .int 0, .int 0, .null, .null, .null, .null, .null, .null, .int 0, .int 0, .int 0, .int 0, .null, .null, .int 0, .int 0, .int 0, .null, .null, .int 0, .int 0, .int 0, .int 0, .int 0, .int 0, .int 0, .int 0, .int 0, .int 0, .int 0, .int 0, .null]), (q1, aI (cA 0) 6 (fun _ => 0)), (q2, aI (cA 0) 6 (fun _ => 0)), (q3, aI (cA 0) 6 (fun _ => 0)), (q4, aI (cA 0) 6 (fun _ => 0)), (q5, aI (cA 0) 6 (fun _ => 0)), (q6, aI (cA 0) 160 (fun _ => 0)), (q7, aI (cA 0) 1200 (fun _ => 0)), (q8, aI (cA 0) 24 (fun _ => 0)), (q9, aI (cA 0) 6 (fun _ => 0))] H _ := hw
  refine n_putF K hm hw i_Model t_Model t_Model_ok n_Model 0 rfl rfl 15 (by decide) w_1040 rfl rfl rfl rfl rfl (Nat.le_of_ble_eq_true rfl) d_Model_init_75 (fun H locs hw => ?_)
  have hw : Wn D cA _ s [(h0, oB 11 [.int 0, .ref q1, .ref q2, .ref q3, .ref q4, .ref q5, .ref q6, .int 0, .ref q7, .ref q8, .int 0, .int 0, .int 0, .int 0, .int 0, .ref q9, .null, .null, .null, .null, .null, .int 0, .int 0, .int 0, .int 0, .null, .null, .int 0, .int 0, .int 0, .null, .null, .int 0, .int 0, .int 0, .int 0, .int 0, .int 0, .int 0, .int 0, .int 0, .int 0, .int 0, .int 0, .null]), (q1, aI (cA 0) 6 (fun _ => 0)), (q2, aI (cA 0) 6 (fun _ => 0)), (q3, aI (cA 0) 6 (fun _ => 0)), (q4, aI (cA 0) 6 (fun _ => 0)), (q5, aI (cA 0) 6 (fun _ => 0)), (q6, aI (cA 0) 160 (fun _ => 0)), (q7, aI (cA 0) 1200 (fun _ => 0)), (q8, aI (cA 0) 24 (fun _ => 0)), (q9, aI (cA 0) 6 (fun _ => 0))] H _ := hw
  refine lv_aload_n hx hb d_Model_init_78 rfl (lv_at hl 0 rfl) ?_
  refine lv_bipush (v := 6) hx hb d_Model_init_79 (by decide) ?_
  refine n_newi K hw 6 (by decide) (by decide) (by decide) (by decide) (by decide) d_Model_init_81 (fun q10 H hw => ?_)
  have hw : Wn D cA _ s [(h0, oB 11 [.int 0, .ref q1, .ref q2, .ref q3, .ref q4, .ref q5, .ref q6, .int 0, .ref q7, .ref q8, .int 0, .int 0, .int 0, .int 0, .int 0, .ref q9, .null, .null, .null, .null, .null, .int 0, .int 0, .int 0, .int 0, .null, .null, .int 0, .int 0, .int 0, .null, .null, .int 0, .int 0, .int 0, .int 0, .int 0, .int 0, .int 0, .int 0, .int 0, .int 0, .int 0, .int 0, .null]), (q1, aI (cA 0) 6 (fun _ => 0)), (q2, aI (cA 0) 6 (fun _ => 0)), (q3, aI (cA 0) 6 (fun _ => 0)), (q4, aI (cA 0) 6 (fun _ => 0)), (q5, aI (cA 0) 6 (fun _ => 0)), (q6, aI (cA 0) 160 (fun _ => 0)), (q7, aI (cA 0) 1200 (fun _ => 0)), (q8, aI (cA 0) 24 (fun _ => 0)), (q9, aI (cA 0) 6 (fun _ => 0)), (q10, aI (cA 0) 6 (fun _ => 0))] H _ := hw
  refine n_putF K hm hw i_Model t_Model t_Model_ok n_Model 0 rfl rfl 16 (by decide) w_1041 rfl rfl rfl rfl rfl (Nat.le_of_ble_eq_true rfl) d_Model_init_83 (fun H locs hw => ?_)
  have hw : Wn D cA _ s [(h0, oB 11 [.int 0, .ref q1, .ref q2, .ref q3, .ref q4, .ref q5, .ref q6, .int 0, .ref q7, .ref q8, .int 0, .int 0, .int 0, .int 0, .int 0, .ref q9, .ref q10, .null, .null, .null, .null, .int 0, .int 0, .int 0, .int 0, .null, .null, .int 0, .int 0, .int 0, .null, .null, .int 0, .int 0, .int 0, .int 0, .int 0, .int 0, .int 0, .int 0, .int 0, .int 0, .int 0, .int 0, .null]), (q1, aI (cA 0) 6 (fun _ => 0)), (q2, aI (cA 0) 6 (fun _ => 0)), (q3, aI (cA 0) 6 (fun _ => 0)), (q4, aI (cA 0) 6 (fun _ => 0)), (q5, aI (cA 0) 6 (fun _ => 0)), (q6, aI (cA 0) 160 (fun _ => 0)), (q7, aI (cA 0) 1200 (fun _ => 0)), (q8, aI (cA 0) 24 (fun _ => 0)), (q9, aI (cA 0) 6 (fun _ => 0)), (q10, aI (cA 0) 6 (fun _ => 0))] H _ := hw
  refine lv_aload_n hx hb d_Model_init_86 rfl (lv_at hl 0 rfl) ?_
  refine lv_iconst (v := 4) hx hb d_Model_init_87 (by decide) ?_
  refine n_newi K hw 4 (by decide) (by decide) (by decide) (by decide) (by decide) d_Model_init_88 (fun q11 H hw => ?_)
  have hw : Wn D cA _ s [(h0, oB 11 [.int 0, .ref q1, .ref q2, .ref q3, .ref q4, .ref q5, .ref q6, .int 0, .ref q7, .ref q8, .int 0, .int 0, .int 0, .int 0, .int 0, .ref q9, .ref q10, .null, .null, .null, .null, .int 0, .int 0, .int 0, .int 0, .null, .null, .int 0, .int 0, .int 0, .null, .null, .int 0, .int 0, .int 0, .int 0, .int 0, .int 0, .int 0, .int 0, .int 0, .int 0, .int 0, .int 0, .null]), (q1, aI (cA 0) 6 (fun _ => 0)), (q2, aI (cA 0) 6 (fun _ => 0)), (q3, aI (cA 0) 6 (fun _ => 0)), (q4, aI (cA 0) 6 (fun _ => 0)), (q5, aI (cA 0) 6 (fun _ => 0)), (q6, aI (cA 0) 160 (fun _ => 0)), (q7, aI (cA 0) 1200 (fun _ => 0)), (q8, aI (cA 0) 24 (fun _ => 0)), (q9, aI (cA 0) 6 (fun _ => 0)), (q10, aI (cA 0) 6 (fun _ => 0)), (q11, aI (cA 0) 4 (fun _ => 0))] H _ := hw
  have hw := hw.cast (ws' := [(h0, oB 11 [.int 0, .ref q1, .ref q2, .ref q3, .ref q4, .ref q5, .ref q6, .int 0, .ref q7, .ref q8, .int 0, .int 0, .int 0, .int 0, .int 0, .ref q9, .ref q10, .null, .null, .null, .null, .int 0, .int 0, .int 0, .int 0, .null, .null, .int 0, .int 0, .int 0, .null, .null, .int 0, .int 0, .int 0, .int 0, .int 0, .int 0, .int 0, .int 0, .int 0, .int 0, .int 0, .int 0, .null]), (q1, aI (cA 0) 6 (fun _ => 0)), (q2, aI (cA 0) 6 (fun _ => 0)), (q3, aI (cA 0) 6 (fun _ => 0)), (q4, aI (cA 0) 6 (fun _ => 0)), (q5, aI (cA 0) 6 (fun _ => 0)), (q6, aI (cA 0) 160 (fun _ => 0)), (q7, aI (cA 0) 1200 (fun _ => 0)), (q8, aI (cA 0) 24 (fun _ => 0)), (q9, aI (cA 0) 6 (fun _ => 0)), (q10, aI (cA 0) 6 (fun _ => 0))] ++ [(q11, aI (cA 0) 4 (tkF M1L 0))]) (by rw [tkF_0]; rfl)
  refine fill_90 K hw (fun H locs hw => ?_)
  have hw : Wn D cA _ s [(h0, oB 11 [.int 0, .ref q1, .ref q2, .ref q3, .ref q4, .ref q5, .ref q6, .int 0, .ref q7, .ref q8, .int 0, .int 0, .int 0, .int 0, .int 0, .ref q9, .ref q10, .null, .null, .null, .null, .int 0, .int 0, .int 0, .int 0, .null, .null, .int 0, .int 0, .int 0, .null, .null, .int 0, .int 0, .int 0, .int 0, .int 0, .int 0, .int 0, .int 0, .int 0, .int 0, .int 0, .int 0, .null]), (q1, aI (cA 0) 6 (fun _ => 0)), (q2, aI (cA 0) 6 (fun _ => 0)), (q3, aI (cA 0) 6 (fun _ => 0)), (q4, aI (cA 0) 6 (fun _ => 0)), (q5, aI (cA 0) 6 (fun _ => 0)), (q6, aI (cA 0) 160 (fun _ => 0)), (q7, aI (cA 0) 1200 (fun _ => 0)), (q8, aI (cA 0) 24 (fun _ => 0)), (q9, aI (cA 0) 6 (fun _ => 0)), (q10, aI (cA 0) 6 (fun _ => 0)), (q11, aI (cA 0) 4 (tkF M1L 4))] H _ := hw
  refine n_putF K hm hw i_Model t_Model t_Model_ok n_Model 0 rfl rfl 17 (by decide) w_1042 rfl rfl rfl rfl rfl (Nat.le_of_ble_eq_true rfl) d_Model_init_106 (fun H locs hw => ?_)
  have hw : Wn D cA _ s [(h0, oB 11 [.int 0, .ref q1, .ref q2, .ref q3, .ref q4, .ref q5, .ref q6, .int 0, .ref q7, .ref q8, .int 0, .int 0, .int 0, .int 0, .int 0, .ref q9, .ref q10, .ref q11, .null, .null, .null, .int 0, .int 0, .int 0, .int 0, .null, .null, .int 0, .int 0, .int 0, .null, .null, .int 0, .int 0, .int 0, .int 0, .int 0, .int 0, .int 0, .int 0, .int 0, .int 0, .int 0, .int 0, .null]), (q1, aI (cA 0) 6 (fun _ => 0)), (q2, aI (cA 0) 6 (fun _ => 0)), (q3, aI (cA 0) 6 (fun _ => 0)), (q4, aI (cA 0) 6 (fun _ => 0)), (q5, aI (cA 0) 6 (fun _ => 0)), (q6, aI (cA 0) 160 (fun _ => 0)), (q7, aI (cA 0) 1200 (fun _ => 0)), (q8, aI (cA 0) 24 (fun _ => 0)), (q9, aI (cA 0) 6 (fun _ => 0)), (q10, aI (cA 0) 6 (fun _ => 0)), (q11, aI (cA 0) 4 (tkF M1L 4))] H _ := hw
  refine lv_aload_n hx hb d_Model_init_109 rfl (lv_at hl 0 rfl) ?_
  refine lv_iconst (v := 4) hx hb d_Model_init_110 (by decide) ?_
  refine n_newi K hw 4 (by decide) (by decide) (by decide) (by decide) (by decide) d_Model_init_111 (fun q12 H hw => ?_)
  have hw : Wn D cA _ s [(h0, oB 11 [.int 0, .ref q1, .ref q2, .ref q3, .ref q4, .ref q5, .ref q6, .int 0, .ref q7, .ref q8, .int 0, .int 0, .int 0, .int 0, .int 0, .ref q9, .ref q10, .ref q11, .null, .null, .null, .int 0, .int 0, .int 0, .int 0, .null, .null, .int 0, .int 0, .int 0, .null, .null, .int 0, .int 0, .int 0, .int 0, .int 0, .int 0, .int 0, .int 0, .int 0, .int 0, .int 0, .int 0, .null]), (q1, aI (cA 0) 6 (fun _ => 0)), (q2, aI (cA 0) 6 (fun _ => 0)), (q3, aI (cA 0) 6 (fun _ => 0)), (q4, aI (cA 0) 6 (fun _ => 0)), (q5, aI (cA 0) 6 (fun _ => 0)), (q6, aI (cA 0) 160 (fun _ => 0)), (q7, aI (cA 0) 1200 (fun _ => 0)), (q8, aI (cA 0) 24 (fun _ => 0)), (q9, aI (cA 0) 6 (fun _ => 0)), (q10, aI (cA 0) 6 (fun _ => 0)), (q11, aI (cA 0) 4 (tkF M1L 4)), (q12, aI (cA 0) 4 (fun _ => 0))] H _ := hw
  refine n_putF K hm hw i_Model t_Model t_Model_ok n_Model 0 rfl rfl 18 (by decide) w_1043 rfl rfl rfl rfl rfl (Nat.le_of_ble_eq_true rfl) d_Model_init_113 (fun H locs hw => ?_)
  have hw : Wn D cA _ s [(h0, oB 11 [.int 0, .ref q1, .ref q2, .ref q3, .ref q4, .ref q5, .ref q6, .int 0, .ref q7, .ref q8, .int 0, .int 0, .int 0, .int 0, .int 0, .ref q9, .ref q10, .ref q11, .ref q12, .null, .null, .int 0, .int 0, .int 0, .int 0, .null, .null, .int 0, .int 0, .int 0, .null, .null, .int 0, .int 0, .int 0, .int 0, .int 0, .int 0, .int 0, .int 0, .int 0, .int 0, .int 0, .int 0, .null]), (q1, aI (cA 0) 6 (fun _ => 0)), (q2, aI (cA 0) 6 (fun _ => 0)), (q3, aI (cA 0) 6 (fun _ => 0)), (q4, aI (cA 0) 6 (fun _ => 0)), (q5, aI (cA 0) 6 (fun _ => 0)), (q6, aI (cA 0) 160 (fun _ => 0)), (q7, aI (cA 0) 1200 (fun _ => 0)), (q8, aI (cA 0) 24 (fun _ => 0)), (q9, aI (cA 0) 6 (fun _ => 0)), (q10, aI (cA 0) 6 (fun _ => 0)), (q11, aI (cA 0) 4 (tkF M1L 4)), (q12, aI (cA 0) 4 (fun _ => 0))] H _ := hw
  refine lv_aload_n hx hb d_Model_init_116 rfl (lv_at hl 0 rfl) ?_
  refine lv_sipush (v := 160) hx hb d_Model_init_117 (by decide) ?_
  refine n_newi K hw 160 (by decide) (by decide) (by decide) (by decide) (by decide) d_Model_init_120 (fun q13 H hw => ?_)
  have hw : Wn D cA _ s [(h0, oB 11 [.int 0, .ref q1, .ref q2, .ref q3, .ref q4, .ref q5, .ref q6, .int 0, .ref q7, .ref q8, .int 0, .int 0, .int 0, .int 0, .int 0, .ref q9, .ref q10, .ref q11, .ref q12, .null, .null, .int 0, .int 0, .int 0, .int 0, .null, .null, .int 0, .int 0, .int 0, .null, .null, .int 0, .int 0, .int 0, .int 0, .int 0, .int 0, .int 0, .int 0, .int 0, .int 0, .int 0, .int 0, .null]), (q1, aI (cA 0) 6 (fun _ => 0)), (q2, aI (cA 0) 6 (fun _ => 0)), (q3, aI (cA 0) 6 (fun _ => 0)), (q4, aI (cA 0) 6 (fun _ => 0)), (q5, aI (cA 0) 6 (fun _ => 0)), (q6, aI (cA 0) 160 (fun _ => 0)), (q7, aI (cA 0) 1200 (fun _ => 0)), (q8, aI (cA 0) 24 (fun _ => 0)), (q9, aI (cA 0) 6 (fun _ => 0)), (q10, aI (cA 0) 6 (fun _ => 0)), (q11, aI (cA 0) 4 (tkF M1L 4)), (q12, aI (cA 0) 4 (fun _ => 0)), (q13, aI (cA 0) 160 (fun _ => 0))] H _ := hw
  refine n_putF K hm hw i_Model t_Model t_Model_ok n_Model 0 rfl rfl 19 (by decide) w_1044 rfl rfl rfl rfl rfl (Nat.le_of_ble_eq_true rfl) d_Model_init_122 (fun H locs hw => ?_)
  have hw : Wn D cA _ s [(h0, oB 11 [.int 0, .ref q1, .ref q2, .ref q3, .ref q4, .ref q5, .ref q6, .int 0, .ref q7, .ref q8, .int 0, .int 0, .int 0, .int 0, .int 0, .ref q9, .ref q10, .ref q11, .ref q12, .ref q13, .null, .int 0, .int 0, .int 0, .int 0, .null, .null, .int 0, .int 0, .int 0, .null, .null, .int 0, .int 0, .int 0, .int 0, .int 0, .int 0, .int 0, .int 0, .int 0, .int 0, .int 0, .int 0, .null]), (q1, aI (cA 0) 6 (fun _ => 0)), (q2, aI (cA 0) 6 (fun _ => 0)), (q3, aI (cA 0) 6 (fun _ => 0)), (q4, aI (cA 0) 6 (fun _ => 0)), (q5, aI (cA 0) 6 (fun _ => 0)), (q6, aI (cA 0) 160 (fun _ => 0)), (q7, aI (cA 0) 1200 (fun _ => 0)), (q8, aI (cA 0) 24 (fun _ => 0)), (q9, aI (cA 0) 6 (fun _ => 0)), (q10, aI (cA 0) 6 (fun _ => 0)), (q11, aI (cA 0) 4 (tkF M1L 4)), (q12, aI (cA 0) 4 (fun _ => 0)), (q13, aI (cA 0) 160 (fun _ => 0))] H _ := hw
  refine lv_aload_n hx hb d_Model_init_125 rfl (lv_at hl 0 rfl) ?_
  refine lv_bipush (v := 62) hx hb d_Model_init_126 (by decide) ?_
  refine n_newi K hw 62 (by decide) (by decide) (by decide) (by decide) (by decide) d_Model_init_128 (fun q14 H hw => ?_)
  have hw : Wn D cA _ s [(h0, oB 11 [.int 0, .ref q1, .ref q2, .ref q3, .ref q4, .ref q5, .ref q6, .int 0, .ref q7, .ref q8, .int 0, .int 0, .int 0, .int 0, .int 0, .ref q9, .ref q10, .ref q11, .ref q12, .ref q13, .null, .int 0, .int 0, .int 0, .int 0, .null, .null, .int 0, .int 0, .int 0, .null, .null, .int 0, .int 0, .int 0, .int 0, .int 0, .int 0, .int 0, .int 0, .int 0, .int 0, .int 0, .int 0, .null]), (q1, aI (cA 0) 6 (fun _ => 0)), (q2, aI (cA 0) 6 (fun _ => 0)), (q3, aI (cA 0) 6 (fun _ => 0)), (q4, aI (cA 0) 6 (fun _ => 0)), (q5, aI (cA 0) 6 (fun _ => 0)), (q6, aI (cA 0) 160 (fun _ => 0)), (q7, aI (cA 0) 1200 (fun _ => 0)), (q8, aI (cA 0) 24 (fun _ => 0)), (q9, aI (cA 0) 6 (fun _ => 0)), (q10, aI (cA 0) 6 (fun _ => 0)), (q11, aI (cA 0) 4 (tkF M1L 4)), (q12, aI (cA 0) 4 (fun _ => 0)), (q13, aI (cA 0) 160 (fun _ => 0)), (q14, aI (cA 0) 62 (fun _ => 0))] H _ := hw
  have hw := hw.cast (ws' := [(h0, oB 11 [.int 0, .ref q1, .ref q2, .ref q3, .ref q4, .ref q5, .ref q6, .int 0, .ref q7, .ref q8, .int 0, .int 0, .int 0, .int 0, .int 0, .ref q9, .ref q10, .ref q11, .ref q12, .ref q13, .null, .int 0, .int 0, .int 0, .int 0, .null, .null, .int 0, .int 0, .int 0, .null, .null, .int 0, .int 0, .int 0, .int 0, .int 0, .int 0, .int 0, .int 0, .int 0, .int 0, .int 0, .int 0, .null]), (q1, aI (cA 0) 6 (fun _ => 0)), (q2, aI (cA 0) 6 (fun _ => 0)), (q3, aI (cA 0) 6 (fun _ => 0)), (q4, aI (cA 0) 6 (fun _ => 0)), (q5, aI (cA 0) 6 (fun _ => 0)), (q6, aI (cA 0) 160 (fun _ => 0)), (q7, aI (cA 0) 1200 (fun _ => 0)), (q8, aI (cA 0) 24 (fun _ => 0)), (q9, aI (cA 0) 6 (fun _ => 0)), (q10, aI (cA 0) 6 (fun _ => 0)), (q11, aI (cA 0) 4 (tkF M1L 4)), (q12, aI (cA 0) 4 (fun _ => 0)), (q13, aI (cA 0) 160 (fun _ => 0))] ++ [(q14, aI (cA 0) 62 (tkF LAWL 0))]) (by rw [tkF_0]; rfl)
  refine fill_130 K hw (fun H locs hw => ?_)
  have hw : Wn D cA _ s [(h0, oB 11 [.int 0, .ref q1, .ref q2, .ref q3, .ref q4, .ref q5, .ref q6, .int 0, .ref q7, .ref q8, .int 0, .int 0, .int 0, .int 0, .int 0, .ref q9, .ref q10, .ref q11, .ref q12, .ref q13, .null, .int 0, .int 0, .int 0, .int 0, .null, .null, .int 0, .int 0, .int 0, .null, .null, .int 0, .int 0, .int 0, .int 0, .int 0, .int 0, .int 0, .int 0, .int 0, .int 0, .int 0, .int 0, .null]), (q1, aI (cA 0) 6 (fun _ => 0)), (q2, aI (cA 0) 6 (fun _ => 0)), (q3, aI (cA 0) 6 (fun _ => 0)), (q4, aI (cA 0) 6 (fun _ => 0)), (q5, aI (cA 0) 6 (fun _ => 0)), (q6, aI (cA 0) 160 (fun _ => 0)), (q7, aI (cA 0) 1200 (fun _ => 0)), (q8, aI (cA 0) 24 (fun _ => 0)), (q9, aI (cA 0) 6 (fun _ => 0)), (q10, aI (cA 0) 6 (fun _ => 0)), (q11, aI (cA 0) 4 (tkF M1L 4)), (q12, aI (cA 0) 4 (fun _ => 0)), (q13, aI (cA 0) 160 (fun _ => 0)), (q14, aI (cA 0) 62 (tkF LAWL 62))] H _ := hw
  refine n_putF K hm hw i_Model t_Model t_Model_ok n_Model 0 rfl rfl 20 (by decide) w_1045 rfl rfl rfl rfl rfl (Nat.le_of_ble_eq_true rfl) d_Model_init_496 (fun H locs hw => ?_)
  have hw : Wn D cA _ s [(h0, oB 11 [.int 0, .ref q1, .ref q2, .ref q3, .ref q4, .ref q5, .ref q6, .int 0, .ref q7, .ref q8, .int 0, .int 0, .int 0, .int 0, .int 0, .ref q9, .ref q10, .ref q11, .ref q12, .ref q13, .ref q14, .int 0, .int 0, .int 0, .int 0, .null, .null, .int 0, .int 0, .int 0, .null, .null, .int 0, .int 0, .int 0, .int 0, .int 0, .int 0, .int 0, .int 0, .int 0, .int 0, .int 0, .int 0, .null]), (q1, aI (cA 0) 6 (fun _ => 0)), (q2, aI (cA 0) 6 (fun _ => 0)), (q3, aI (cA 0) 6 (fun _ => 0)), (q4, aI (cA 0) 6 (fun _ => 0)), (q5, aI (cA 0) 6 (fun _ => 0)), (q6, aI (cA 0) 160 (fun _ => 0)), (q7, aI (cA 0) 1200 (fun _ => 0)), (q8, aI (cA 0) 24 (fun _ => 0)), (q9, aI (cA 0) 6 (fun _ => 0)), (q10, aI (cA 0) 6 (fun _ => 0)), (q11, aI (cA 0) 4 (tkF M1L 4)), (q12, aI (cA 0) 4 (fun _ => 0)), (q13, aI (cA 0) 160 (fun _ => 0)), (q14, aI (cA 0) 62 (tkF LAWL 62))] H _ := hw
  refine lv_aload_n hx hb d_Model_init_499 rfl (lv_at hl 0 rfl) ?_
  refine lv_bipush (v := 96) hx hb d_Model_init_500 (by decide) ?_
  refine n_newi K hw 96 (by decide) (by decide) (by decide) (by decide) (by decide) d_Model_init_502 (fun q15 H hw => ?_)
  have hw : Wn D cA _ s [(h0, oB 11 [.int 0, .ref q1, .ref q2, .ref q3, .ref q4, .ref q5, .ref q6, .int 0, .ref q7, .ref q8, .int 0, .int 0, .int 0, .int 0, .int 0, .ref q9, .ref q10, .ref q11, .ref q12, .ref q13, .ref q14, .int 0, .int 0, .int 0, .int 0, .null, .null, .int 0, .int 0, .int 0, .null, .null, .int 0, .int 0, .int 0, .int 0, .int 0, .int 0, .int 0, .int 0, .int 0, .int 0, .int 0, .int 0, .null]), (q1, aI (cA 0) 6 (fun _ => 0)), (q2, aI (cA 0) 6 (fun _ => 0)), (q3, aI (cA 0) 6 (fun _ => 0)), (q4, aI (cA 0) 6 (fun _ => 0)), (q5, aI (cA 0) 6 (fun _ => 0)), (q6, aI (cA 0) 160 (fun _ => 0)), (q7, aI (cA 0) 1200 (fun _ => 0)), (q8, aI (cA 0) 24 (fun _ => 0)), (q9, aI (cA 0) 6 (fun _ => 0)), (q10, aI (cA 0) 6 (fun _ => 0)), (q11, aI (cA 0) 4 (tkF M1L 4)), (q12, aI (cA 0) 4 (fun _ => 0)), (q13, aI (cA 0) 160 (fun _ => 0)), (q14, aI (cA 0) 62 (tkF LAWL 62)), (q15, aI (cA 0) 96 (fun _ => 0))] H _ := hw
  have hw := hw.cast (ws' := [(h0, oB 11 [.int 0, .ref q1, .ref q2, .ref q3, .ref q4, .ref q5, .ref q6, .int 0, .ref q7, .ref q8, .int 0, .int 0, .int 0, .int 0, .int 0, .ref q9, .ref q10, .ref q11, .ref q12, .ref q13, .ref q14, .int 0, .int 0, .int 0, .int 0, .null, .null, .int 0, .int 0, .int 0, .null, .null, .int 0, .int 0, .int 0, .int 0, .int 0, .int 0, .int 0, .int 0, .int 0, .int 0, .int 0, .int 0, .null]), (q1, aI (cA 0) 6 (fun _ => 0)), (q2, aI (cA 0) 6 (fun _ => 0)), (q3, aI (cA 0) 6 (fun _ => 0)), (q4, aI (cA 0) 6 (fun _ => 0)), (q5, aI (cA 0) 6 (fun _ => 0)), (q6, aI (cA 0) 160 (fun _ => 0)), (q7, aI (cA 0) 1200 (fun _ => 0)), (q8, aI (cA 0) 24 (fun _ => 0)), (q9, aI (cA 0) 6 (fun _ => 0)), (q10, aI (cA 0) 6 (fun _ => 0)), (q11, aI (cA 0) 4 (tkF M1L 4)), (q12, aI (cA 0) 4 (fun _ => 0)), (q13, aI (cA 0) 160 (fun _ => 0)), (q14, aI (cA 0) 62 (tkF LAWL 62))] ++ [(q15, aI (cA 0) 96 (tkF wordsL 0))]) (by rw [tkF_0]; rfl)
  refine fill_504 K hw (fun H locs hw => ?_)
  have hw : Wn D cA _ s [(h0, oB 11 [.int 0, .ref q1, .ref q2, .ref q3, .ref q4, .ref q5, .ref q6, .int 0, .ref q7, .ref q8, .int 0, .int 0, .int 0, .int 0, .int 0, .ref q9, .ref q10, .ref q11, .ref q12, .ref q13, .ref q14, .int 0, .int 0, .int 0, .int 0, .null, .null, .int 0, .int 0, .int 0, .null, .null, .int 0, .int 0, .int 0, .int 0, .int 0, .int 0, .int 0, .int 0, .int 0, .int 0, .int 0, .int 0, .null]), (q1, aI (cA 0) 6 (fun _ => 0)), (q2, aI (cA 0) 6 (fun _ => 0)), (q3, aI (cA 0) 6 (fun _ => 0)), (q4, aI (cA 0) 6 (fun _ => 0)), (q5, aI (cA 0) 6 (fun _ => 0)), (q6, aI (cA 0) 160 (fun _ => 0)), (q7, aI (cA 0) 1200 (fun _ => 0)), (q8, aI (cA 0) 24 (fun _ => 0)), (q9, aI (cA 0) 6 (fun _ => 0)), (q10, aI (cA 0) 6 (fun _ => 0)), (q11, aI (cA 0) 4 (tkF M1L 4)), (q12, aI (cA 0) 4 (fun _ => 0)), (q13, aI (cA 0) 160 (fun _ => 0)), (q14, aI (cA 0) 62 (tkF LAWL 62)), (q15, aI (cA 0) 96 (tkF wordsL 96))] H _ := hw
  refine n_putF K hm hw i_Model t_Model t_Model_ok n_Model 0 rfl rfl 25 (by decide) w_1050 rfl rfl rfl rfl rfl (Nat.le_of_ble_eq_true rfl) d_Model_init_1074 (fun H locs hw => ?_)
  have hw : Wn D cA _ s [(h0, oB 11 [.int 0, .ref q1, .ref q2, .ref q3, .ref q4, .ref q5, .ref q6, .int 0, .ref q7, .ref q8, .int 0, .int 0, .int 0, .int 0, .int 0, .ref q9, .ref q10, .ref q11, .ref q12, .ref q13, .ref q14, .int 0, .int 0, .int 0, .int 0, .ref q15, .null, .int 0, .int 0, .int 0, .null, .null, .int 0, .int 0, .int 0, .int 0, .int 0, .int 0, .int 0, .int 0, .int 0, .int 0, .int 0, .int 0, .null]), (q1, aI (cA 0) 6 (fun _ => 0)), (q2, aI (cA 0) 6 (fun _ => 0)), (q3, aI (cA 0) 6 (fun _ => 0)), (q4, aI (cA 0) 6 (fun _ => 0)), (q5, aI (cA 0) 6 (fun _ => 0)), (q6, aI (cA 0) 160 (fun _ => 0)), (q7, aI (cA 0) 1200 (fun _ => 0)), (q8, aI (cA 0) 24 (fun _ => 0)), (q9, aI (cA 0) 6 (fun _ => 0)), (q10, aI (cA 0) 6 (fun _ => 0)), (q11, aI (cA 0) 4 (tkF M1L 4)), (q12, aI (cA 0) 4 (fun _ => 0)), (q13, aI (cA 0) 160 (fun _ => 0)), (q14, aI (cA 0) 62 (tkF LAWL 62)), (q15, aI (cA 0) 96 (tkF wordsL 96))] H _ := hw
  refine lv_aload_n hx hb d_Model_init_1077 rfl (lv_at hl 0 rfl) ?_
  refine lv_sipush (v := 200) hx hb d_Model_init_1078 (by decide) ?_
  refine n_newi K hw 200 (by decide) (by decide) (by decide) (by decide) (by decide) d_Model_init_1081 (fun q16 H hw => ?_)
  have hw : Wn D cA _ s [(h0, oB 11 [.int 0, .ref q1, .ref q2, .ref q3, .ref q4, .ref q5, .ref q6, .int 0, .ref q7, .ref q8, .int 0, .int 0, .int 0, .int 0, .int 0, .ref q9, .ref q10, .ref q11, .ref q12, .ref q13, .ref q14, .int 0, .int 0, .int 0, .int 0, .ref q15, .null, .int 0, .int 0, .int 0, .null, .null, .int 0, .int 0, .int 0, .int 0, .int 0, .int 0, .int 0, .int 0, .int 0, .int 0, .int 0, .int 0, .null]), (q1, aI (cA 0) 6 (fun _ => 0)), (q2, aI (cA 0) 6 (fun _ => 0)), (q3, aI (cA 0) 6 (fun _ => 0)), (q4, aI (cA 0) 6 (fun _ => 0)), (q5, aI (cA 0) 6 (fun _ => 0)), (q6, aI (cA 0) 160 (fun _ => 0)), (q7, aI (cA 0) 1200 (fun _ => 0)), (q8, aI (cA 0) 24 (fun _ => 0)), (q9, aI (cA 0) 6 (fun _ => 0)), (q10, aI (cA 0) 6 (fun _ => 0)), (q11, aI (cA 0) 4 (tkF M1L 4)), (q12, aI (cA 0) 4 (fun _ => 0)), (q13, aI (cA 0) 160 (fun _ => 0)), (q14, aI (cA 0) 62 (tkF LAWL 62)), (q15, aI (cA 0) 96 (tkF wordsL 96)), (q16, aI (cA 0) 200 (fun _ => 0))] H _ := hw
  refine n_putF K hm hw i_Model t_Model t_Model_ok n_Model 0 rfl rfl 26 (by decide) w_1051 rfl rfl rfl rfl rfl (Nat.le_of_ble_eq_true rfl) d_Model_init_1083 (fun H locs hw => ?_)
  have hw : Wn D cA _ s [(h0, oB 11 [.int 0, .ref q1, .ref q2, .ref q3, .ref q4, .ref q5, .ref q6, .int 0, .ref q7, .ref q8, .int 0, .int 0, .int 0, .int 0, .int 0, .ref q9, .ref q10, .ref q11, .ref q12, .ref q13, .ref q14, .int 0, .int 0, .int 0, .int 0, .ref q15, .ref q16, .int 0, .int 0, .int 0, .null, .null, .int 0, .int 0, .int 0, .int 0, .int 0, .int 0, .int 0, .int 0, .int 0, .int 0, .int 0, .int 0, .null]), (q1, aI (cA 0) 6 (fun _ => 0)), (q2, aI (cA 0) 6 (fun _ => 0)), (q3, aI (cA 0) 6 (fun _ => 0)), (q4, aI (cA 0) 6 (fun _ => 0)), (q5, aI (cA 0) 6 (fun _ => 0)), (q6, aI (cA 0) 160 (fun _ => 0)), (q7, aI (cA 0) 1200 (fun _ => 0)), (q8, aI (cA 0) 24 (fun _ => 0)), (q9, aI (cA 0) 6 (fun _ => 0)), (q10, aI (cA 0) 6 (fun _ => 0)), (q11, aI (cA 0) 4 (tkF M1L 4)), (q12, aI (cA 0) 4 (fun _ => 0)), (q13, aI (cA 0) 160 (fun _ => 0)), (q14, aI (cA 0) 62 (tkF LAWL 62)), (q15, aI (cA 0) 96 (tkF wordsL 96)), (q16, aI (cA 0) 200 (fun _ => 0))] H _ := hw
  refine lv_aload_n hx hb d_Model_init_1086 rfl (lv_at hl 0 rfl) ?_
  refine lv_sipush (v := 200) hx hb d_Model_init_1087 (by decide) ?_
  refine n_newi K hw 200 (by decide) (by decide) (by decide) (by decide) (by decide) d_Model_init_1090 (fun q17 H hw => ?_)
  have hw : Wn D cA _ s [(h0, oB 11 [.int 0, .ref q1, .ref q2, .ref q3, .ref q4, .ref q5, .ref q6, .int 0, .ref q7, .ref q8, .int 0, .int 0, .int 0, .int 0, .int 0, .ref q9, .ref q10, .ref q11, .ref q12, .ref q13, .ref q14, .int 0, .int 0, .int 0, .int 0, .ref q15, .ref q16, .int 0, .int 0, .int 0, .null, .null, .int 0, .int 0, .int 0, .int 0, .int 0, .int 0, .int 0, .int 0, .int 0, .int 0, .int 0, .int 0, .null]), (q1, aI (cA 0) 6 (fun _ => 0)), (q2, aI (cA 0) 6 (fun _ => 0)), (q3, aI (cA 0) 6 (fun _ => 0)), (q4, aI (cA 0) 6 (fun _ => 0)), (q5, aI (cA 0) 6 (fun _ => 0)), (q6, aI (cA 0) 160 (fun _ => 0)), (q7, aI (cA 0) 1200 (fun _ => 0)), (q8, aI (cA 0) 24 (fun _ => 0)), (q9, aI (cA 0) 6 (fun _ => 0)), (q10, aI (cA 0) 6 (fun _ => 0)), (q11, aI (cA 0) 4 (tkF M1L 4)), (q12, aI (cA 0) 4 (fun _ => 0)), (q13, aI (cA 0) 160 (fun _ => 0)), (q14, aI (cA 0) 62 (tkF LAWL 62)), (q15, aI (cA 0) 96 (tkF wordsL 96)), (q16, aI (cA 0) 200 (fun _ => 0)), (q17, aI (cA 0) 200 (fun _ => 0))] H _ := hw
  refine n_putF K hm hw i_Model t_Model t_Model_ok n_Model 0 rfl rfl 30 (by decide) w_1055 rfl rfl rfl rfl rfl (Nat.le_of_ble_eq_true rfl) d_Model_init_1092 (fun H locs hw => ?_)
  have hw : Wn D cA _ s [(h0, oB 11 [.int 0, .ref q1, .ref q2, .ref q3, .ref q4, .ref q5, .ref q6, .int 0, .ref q7, .ref q8, .int 0, .int 0, .int 0, .int 0, .int 0, .ref q9, .ref q10, .ref q11, .ref q12, .ref q13, .ref q14, .int 0, .int 0, .int 0, .int 0, .ref q15, .ref q16, .int 0, .int 0, .int 0, .ref q17, .null, .int 0, .int 0, .int 0, .int 0, .int 0, .int 0, .int 0, .int 0, .int 0, .int 0, .int 0, .int 0, .null]), (q1, aI (cA 0) 6 (fun _ => 0)), (q2, aI (cA 0) 6 (fun _ => 0)), (q3, aI (cA 0) 6 (fun _ => 0)), (q4, aI (cA 0) 6 (fun _ => 0)), (q5, aI (cA 0) 6 (fun _ => 0)), (q6, aI (cA 0) 160 (fun _ => 0)), (q7, aI (cA 0) 1200 (fun _ => 0)), (q8, aI (cA 0) 24 (fun _ => 0)), (q9, aI (cA 0) 6 (fun _ => 0)), (q10, aI (cA 0) 6 (fun _ => 0)), (q11, aI (cA 0) 4 (tkF M1L 4)), (q12, aI (cA 0) 4 (fun _ => 0)), (q13, aI (cA 0) 160 (fun _ => 0)), (q14, aI (cA 0) 62 (tkF LAWL 62)), (q15, aI (cA 0) 96 (tkF wordsL 96)), (q16, aI (cA 0) 200 (fun _ => 0)), (q17, aI (cA 0) 200 (fun _ => 0))] H _ := hw
  refine lv_aload_n hx hb d_Model_init_1095 rfl (lv_at hl 0 rfl) ?_
  refine lv_bipush (v := 6) hx hb d_Model_init_1096 (by decide) ?_
  refine n_newi K hw 6 (by decide) (by decide) (by decide) (by decide) (by decide) d_Model_init_1098 (fun q18 H hw => ?_)
  have hw : Wn D cA _ s [(h0, oB 11 [.int 0, .ref q1, .ref q2, .ref q3, .ref q4, .ref q5, .ref q6, .int 0, .ref q7, .ref q8, .int 0, .int 0, .int 0, .int 0, .int 0, .ref q9, .ref q10, .ref q11, .ref q12, .ref q13, .ref q14, .int 0, .int 0, .int 0, .int 0, .ref q15, .ref q16, .int 0, .int 0, .int 0, .ref q17, .null, .int 0, .int 0, .int 0, .int 0, .int 0, .int 0, .int 0, .int 0, .int 0, .int 0, .int 0, .int 0, .null]), (q1, aI (cA 0) 6 (fun _ => 0)), (q2, aI (cA 0) 6 (fun _ => 0)), (q3, aI (cA 0) 6 (fun _ => 0)), (q4, aI (cA 0) 6 (fun _ => 0)), (q5, aI (cA 0) 6 (fun _ => 0)), (q6, aI (cA 0) 160 (fun _ => 0)), (q7, aI (cA 0) 1200 (fun _ => 0)), (q8, aI (cA 0) 24 (fun _ => 0)), (q9, aI (cA 0) 6 (fun _ => 0)), (q10, aI (cA 0) 6 (fun _ => 0)), (q11, aI (cA 0) 4 (tkF M1L 4)), (q12, aI (cA 0) 4 (fun _ => 0)), (q13, aI (cA 0) 160 (fun _ => 0)), (q14, aI (cA 0) 62 (tkF LAWL 62)), (q15, aI (cA 0) 96 (tkF wordsL 96)), (q16, aI (cA 0) 200 (fun _ => 0)), (q17, aI (cA 0) 200 (fun _ => 0)), (q18, aI (cA 0) 6 (fun _ => 0))] H _ := hw
  refine n_putF K hm hw i_Model t_Model t_Model_ok n_Model 0 rfl rfl 31 (by decide) w_1056 rfl rfl rfl rfl rfl (Nat.le_of_ble_eq_true rfl) d_Model_init_1100 (fun H locs hw => ?_)
  have hw : Wn D cA _ s [(h0, oB 11 [.int 0, .ref q1, .ref q2, .ref q3, .ref q4, .ref q5, .ref q6, .int 0, .ref q7, .ref q8, .int 0, .int 0, .int 0, .int 0, .int 0, .ref q9, .ref q10, .ref q11, .ref q12, .ref q13, .ref q14, .int 0, .int 0, .int 0, .int 0, .ref q15, .ref q16, .int 0, .int 0, .int 0, .ref q17, .ref q18, .int 0, .int 0, .int 0, .int 0, .int 0, .int 0, .int 0, .int 0, .int 0, .int 0, .int 0, .int 0, .null]), (q1, aI (cA 0) 6 (fun _ => 0)), (q2, aI (cA 0) 6 (fun _ => 0)), (q3, aI (cA 0) 6 (fun _ => 0)), (q4, aI (cA 0) 6 (fun _ => 0)), (q5, aI (cA 0) 6 (fun _ => 0)), (q6, aI (cA 0) 160 (fun _ => 0)), (q7, aI (cA 0) 1200 (fun _ => 0)), (q8, aI (cA 0) 24 (fun _ => 0)), (q9, aI (cA 0) 6 (fun _ => 0)), (q10, aI (cA 0) 6 (fun _ => 0)), (q11, aI (cA 0) 4 (tkF M1L 4)), (q12, aI (cA 0) 4 (fun _ => 0)), (q13, aI (cA 0) 160 (fun _ => 0)), (q14, aI (cA 0) 62 (tkF LAWL 62)), (q15, aI (cA 0) 96 (tkF wordsL 96)), (q16, aI (cA 0) 200 (fun _ => 0)), (q17, aI (cA 0) 200 (fun _ => 0)), (q18, aI (cA 0) 6 (fun _ => 0))] H _ := hw
  refine lv_aload_n hx hb d_Model_init_1103 rfl (lv_at hl 0 rfl) ?_
  refine lv_bipush (v := 6) hx hb d_Model_init_1104 (by decide) ?_
  refine n_newi K hw 6 (by decide) (by decide) (by decide) (by decide) (by decide) d_Model_init_1106 (fun q19 H hw => ?_)
  have hw : Wn D cA _ s [(h0, oB 11 [.int 0, .ref q1, .ref q2, .ref q3, .ref q4, .ref q5, .ref q6, .int 0, .ref q7, .ref q8, .int 0, .int 0, .int 0, .int 0, .int 0, .ref q9, .ref q10, .ref q11, .ref q12, .ref q13, .ref q14, .int 0, .int 0, .int 0, .int 0, .ref q15, .ref q16, .int 0, .int 0, .int 0, .ref q17, .ref q18, .int 0, .int 0, .int 0, .int 0, .int 0, .int 0, .int 0, .int 0, .int 0, .int 0, .int 0, .int 0, .null]), (q1, aI (cA 0) 6 (fun _ => 0)), (q2, aI (cA 0) 6 (fun _ => 0)), (q3, aI (cA 0) 6 (fun _ => 0)), (q4, aI (cA 0) 6 (fun _ => 0)), (q5, aI (cA 0) 6 (fun _ => 0)), (q6, aI (cA 0) 160 (fun _ => 0)), (q7, aI (cA 0) 1200 (fun _ => 0)), (q8, aI (cA 0) 24 (fun _ => 0)), (q9, aI (cA 0) 6 (fun _ => 0)), (q10, aI (cA 0) 6 (fun _ => 0)), (q11, aI (cA 0) 4 (tkF M1L 4)), (q12, aI (cA 0) 4 (fun _ => 0)), (q13, aI (cA 0) 160 (fun _ => 0)), (q14, aI (cA 0) 62 (tkF LAWL 62)), (q15, aI (cA 0) 96 (tkF wordsL 96)), (q16, aI (cA 0) 200 (fun _ => 0)), (q17, aI (cA 0) 200 (fun _ => 0)), (q18, aI (cA 0) 6 (fun _ => 0)), (q19, aI (cA 0) 6 (fun _ => 0))] H _ := hw
  refine n_putF K hm hw i_Model t_Model t_Model_ok n_Model 0 rfl rfl 44 (by decide) w_1069 rfl rfl rfl rfl rfl (Nat.le_of_ble_eq_true rfl) d_Model_init_1108 (fun H locs hw => ?_)
  have hw : Wn D cA _ s [(h0, oB 11 [.int 0, .ref q1, .ref q2, .ref q3, .ref q4, .ref q5, .ref q6, .int 0, .ref q7, .ref q8, .int 0, .int 0, .int 0, .int 0, .int 0, .ref q9, .ref q10, .ref q11, .ref q12, .ref q13, .ref q14, .int 0, .int 0, .int 0, .int 0, .ref q15, .ref q16, .int 0, .int 0, .int 0, .ref q17, .ref q18, .int 0, .int 0, .int 0, .int 0, .int 0, .int 0, .int 0, .int 0, .int 0, .int 0, .int 0, .int 0, .ref q19]), (q1, aI (cA 0) 6 (fun _ => 0)), (q2, aI (cA 0) 6 (fun _ => 0)), (q3, aI (cA 0) 6 (fun _ => 0)), (q4, aI (cA 0) 6 (fun _ => 0)), (q5, aI (cA 0) 6 (fun _ => 0)), (q6, aI (cA 0) 160 (fun _ => 0)), (q7, aI (cA 0) 1200 (fun _ => 0)), (q8, aI (cA 0) 24 (fun _ => 0)), (q9, aI (cA 0) 6 (fun _ => 0)), (q10, aI (cA 0) 6 (fun _ => 0)), (q11, aI (cA 0) 4 (tkF M1L 4)), (q12, aI (cA 0) 4 (fun _ => 0)), (q13, aI (cA 0) 160 (fun _ => 0)), (q14, aI (cA 0) 62 (tkF LAWL 62)), (q15, aI (cA 0) 96 (tkF wordsL 96)), (q16, aI (cA 0) 200 (fun _ => 0)), (q17, aI (cA 0) 200 (fun _ => 0)), (q18, aI (cA 0) 6 (fun _ => 0)), (q19, aI (cA 0) 6 (fun _ => 0))] H _ := hw
  refine lv_iconst (v := 0) hx hb d_Model_init_1111 (by decide) ?_
  refine lv_istore_n (lv' := [(1, .int 0), (0, .ref h0)]) hx hb d_Model_init_1112 rfl hl (by decide) rfl (fun ls hl => ?_)
  have hw := hw.cast (ws' := [(h0, oB 11 [.int 0, .ref q1, .ref q2, .ref q3, .ref q4, .ref q5, .ref q6, .int 0, .ref q7, .ref q8, .int 0, .int 0, .int 0, .int 0, .int 0, .ref q9, .ref q10, .ref q11, .ref q12, .ref q13, .ref q14, .int 0, .int 0, .int 0, .int 0, .ref q15, .ref q16, .int 0, .int 0, .int 0, .ref q17, .ref q18, .int 0, .int 0, .int 0, .int 0, .int 0, .int 0, .int 0, .int 0, .int 0, .int 0, .int 0, .int 0, .ref q19]), (q1, aI (cA 0) 6 (fun _ => 0)), (q2, aI (cA 0) 6 (fun _ => 0)), (q3, aI (cA 0) 6 (fun _ => 0)), (q4, aI (cA 0) 6 (fun _ => 0)), (q5, aI (cA 0) 6 (fun _ => 0)), (q6, aI (cA 0) 160 (tkF LAWL 0)), (q7, aI (cA 0) 1200 (fun _ => 0)), (q8, aI (cA 0) 24 (fun _ => 0)), (q9, aI (cA 0) 6 (fun _ => 0)), (q10, aI (cA 0) 6 (fun _ => 0)), (q11, aI (cA 0) 4 (tkF M1L 4)), (q12, aI (cA 0) 4 (fun _ => 0)), (q13, aI (cA 0) 160 (fun _ => 0)), (q14, aI (cA 0) 62 (tkF LAWL 62)), (q15, aI (cA 0) 96 (tkF wordsL 96)), (q16, aI (cA 0) 200 (fun _ => 0)), (q17, aI (cA 0) 200 (fun _ => 0)), (q18, aI (cA 0) 6 (fun _ => 0)), (q19, aI (cA 0) 6 (fun _ => 0))]) (by rw [tkF_0])
  refine loop_Model_init K (fun H locs ls hl hw => ?_) 62 0 rfl _ _ _ hl hw
  refine lv_aload_n hx hb d_Model_init_1137 rfl (lv_at hl 0 rfl) ?_
  refine lv_bipush (v := 62) hx hb d_Model_init_1138 (by decide) ?_
  refine n_put K hw i_Model t_Model t_Model_ok n_Model 0 rfl rfl 7 (by decide) w_1032 rfl rfl rfl rfl (Nat.le_of_ble_eq_true rfl) d_Model_init_1140 (fun H locs hw => ?_)
  have hw : Wn D cA _ s [(h0, oB 11 [.int 0, .ref q1, .ref q2, .ref q3, .ref q4, .ref q5, .ref q6, .int 62, .ref q7, .ref q8, .int 0, .int 0, .int 0, .int 0, .int 0, .ref q9, .ref q10, .ref q11, .ref q12, .ref q13, .ref q14, .int 0, .int 0, .int 0, .int 0, .ref q15, .ref q16, .int 0, .int 0, .int 0, .ref q17, .ref q18, .int 0, .int 0, .int 0, .int 0, .int 0, .int 0, .int 0, .int 0, .int 0, .int 0, .int 0, .int 0, .ref q19]), (q1, aI (cA 0) 6 (fun _ => 0)), (q2, aI (cA 0) 6 (fun _ => 0)), (q3, aI (cA 0) 6 (fun _ => 0)), (q4, aI (cA 0) 6 (fun _ => 0)), (q5, aI (cA 0) 6 (fun _ => 0)), (q6, aI (cA 0) 160 (tkF LAWL 62)), (q7, aI (cA 0) 1200 (fun _ => 0)), (q8, aI (cA 0) 24 (fun _ => 0)), (q9, aI (cA 0) 6 (fun _ => 0)), (q10, aI (cA 0) 6 (fun _ => 0)), (q11, aI (cA 0) 4 (tkF M1L 4)), (q12, aI (cA 0) 4 (fun _ => 0)), (q13, aI (cA 0) 160 (fun _ => 0)), (q14, aI (cA 0) 62 (tkF LAWL 62)), (q15, aI (cA 0) 96 (tkF wordsL 96)), (q16, aI (cA 0) 200 (fun _ => 0)), (q17, aI (cA 0) 200 (fun _ => 0)), (q18, aI (cA 0) 6 (fun _ => 0)), (q19, aI (cA 0) 6 (fun _ => 0))] H _ := hw
  refine lv_aload_n hx hb d_Model_init_1143 rfl (lv_at hl 0 rfl) ?_
  have hw := hw.cast (ws' := [] ++ Wd cA (mkU [h0, q1, q2, q3, q4, q5, q6, q7, q8, q9, q10, q11, q12, q13, q14, q15, q16, q17, q18, q19] adc) shM muB) (by rw [Wd_muB]; rfl)
  refine n_WVI (ws0 := []) (As := []) (rest := []) (q := 0) K hw (hC.ad (fun k hk => mkU_big (Nat.le_trans (Nat.le_of_ble_eq_true rfl) hk))) hl.1 (c_Model_text (l := l) (D := D) (cA := cA) (s0 := muB) hF) sh_Model rfl (tb_gV w_978 w_979 w_980 w_80 w_981) a_Model_text ⟨rfl, rfl, Nat.le_of_ble_eq_true rfl, Nat.le_of_ble_eq_true rfl⟩ rfl rfl (by decide) ⟨Nat.le_of_ble_eq_true rfl, Nat.le_of_ble_eq_true rfl⟩ d_Model_init_1144 (fun H locs hw => ?_)
  refine lv_pop hx hb d_Model_init_1147 rfl ?_
  exact cc_end K (mkU [h0, q1, q2, q3, q4, q5, q6, q7, q8, q9, q10, q11, q12, q13, q14, q15, q16, q17, q18, q19] adc) hw ⟨rfl, fun k hk => mkU_big (Nat.le_trans (Nat.le_of_ble_eq_true rfl) hk)⟩ (Nat.le_of_ble_eq_true rfl) (Nat.le_of_ble_eq_true rfl) d_Model_init_1148
