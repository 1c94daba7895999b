/-! Model.eRead()Z -/
abbrev b_Model_eRead : ByteArray := prog_13_method_20_code
def y_Model_eRead : MethodName := ⟨R_Model, "eRead", "()Z"⟩
theorem a_Model_eRead : y_Model_eRead.cls = R_Model ∧ y_Model_eRead.cls ≠ "java/lang/invoke/MethodHandle" ∧ y_Model_eRead.cls ≠ "java/lang/invoke/VarHandle" ∧ (parseMethodDescriptor y_Model_eRead.desc).map (fun d => d.parameters.length) = some 0 := by decide +kernel
abbrev rm_Model_eRead : Room := { frames := 3, cells := 0, slots := 0, locals := 64 }
theorem w_982 : Cond.methodLink R_Model 138 y_Model_next ∈ TB := tb_in 982 (by decide +kernel) (by decide +kernel)
theorem w_984 : Cond.instanceMethod y_Model_next ∈ TB := tb_in 984 (by decide +kernel) (by decide +kernel)
theorem w_30 : Cond.selects R_Model y_Model_next y_Model_next ∈ TB := tb_in 30 (by decide +kernel) (by decide +kernel)
theorem w_1017 : Cond.methodLink R_Model 145 y_Model_signOf ∈ TB := tb_in 1017 (by decide +kernel) (by decide +kernel)
theorem w_1019 : Cond.instanceMethod y_Model_signOf ∈ TB := tb_in 1019 (by decide +kernel) (by decide +kernel)
theorem w_37 : Cond.selects R_Model y_Model_signOf y_Model_signOf ∈ TB := tb_in 37 (by decide +kernel) (by decide +kernel)
theorem w_1021 : Cond.methodLink R_Model 148 y_Model_between ∈ TB := tb_in 1021 (by decide +kernel) (by decide +kernel)
theorem w_1023 : Cond.instanceMethod y_Model_between ∈ TB := tb_in 1023 (by decide +kernel) (by decide +kernel)
theorem w_38 : Cond.selects R_Model y_Model_between y_Model_between ∈ TB := tb_in 38 (by decide +kernel) (by decide +kernel)
theorem w_997 : Cond.constant R_Model 141 100000 ∈ TB := tb_in 997 (by decide +kernel) (by decide +kernel)
theorem w_1009 : Cond.methodLink R_Model 142 y_Model_opensOne ∈ TB := tb_in 1009 (by decide +kernel) (by decide +kernel)
theorem w_1011 : Cond.instanceMethod y_Model_opensOne ∈ TB := tb_in 1011 (by decide +kernel) (by decide +kernel)
theorem w_35 : Cond.selects R_Model y_Model_opensOne y_Model_opensOne ∈ TB := tb_in 35 (by decide +kernel) (by decide +kernel)
theorem w_996 : Cond.code y_Model_eRead b_Model_eRead 4 (some .boolean) ∈ TB := tb_in 996 (by decide +kernel) (by decide +kernel)
theorem d_Model_eRead_0 : decode b_Model_eRead 0 = .ok (.aload_n 0, 1) := by decide +kernel
theorem d_Model_eRead_1 : decode b_Model_eRead 1 = .ok (.iconst 0, 1) := by decide +kernel
theorem d_Model_eRead_2 : decode b_Model_eRead 2 = .ok (.putfield 118, 3) := by decide +kernel
theorem d_Model_eRead_5 : decode b_Model_eRead 5 = .ok (.aload_n 0, 1) := by decide +kernel
theorem d_Model_eRead_6 : decode b_Model_eRead 6 = .ok (.iconst 0, 1) := by decide +kernel
theorem d_Model_eRead_7 : decode b_Model_eRead 7 = .ok (.putfield 125, 3) := by decide +kernel
theorem d_Model_eRead_10 : decode b_Model_eRead 10 = .ok (.iconst 1, 1) := by decide +kernel
theorem d_Model_eRead_11 : decode b_Model_eRead 11 = .ok (.istore_n 1, 1) := by decide +kernel
theorem d_Model_eRead_12 : decode b_Model_eRead 12 = .ok (.iconst 1, 1) := by decide +kernel
theorem d_Model_eRead_13 : decode b_Model_eRead 13 = .ok (.istore_n 2, 1) := by decide +kernel
theorem d_Model_eRead_14 : decode b_Model_eRead 14 = .ok (.aload_n 0, 1) := by decide +kernel
theorem d_Model_eRead_15 : decode b_Model_eRead 15 = .ok (.invokevirtual 138, 3) := by decide +kernel
theorem d_Model_eRead_18 : decode b_Model_eRead 18 = .ok (.iload_n 1, 1) := by decide +kernel
theorem d_Model_eRead_19 : decode b_Model_eRead 19 = .ok (.ifCond .eq 131, 3) := by decide +kernel
theorem d_Model_eRead_22 : decode b_Model_eRead 22 = .ok (.aload_n 0, 1) := by decide +kernel
theorem d_Model_eRead_23 : decode b_Model_eRead 23 = .ok (.getfield 105, 3) := by decide +kernel
theorem d_Model_eRead_26 : decode b_Model_eRead 26 = .ok (.iconst 1, 1) := by decide +kernel
theorem d_Model_eRead_27 : decode b_Model_eRead 27 = .ok (.if_icmp .eq 11, 3) := by decide +kernel
theorem d_Model_eRead_30 : decode b_Model_eRead 30 = .ok (.aload_n 0, 1) := by decide +kernel
theorem d_Model_eRead_31 : decode b_Model_eRead 31 = .ok (.getfield 105, 3) := by decide +kernel
theorem d_Model_eRead_34 : decode b_Model_eRead 34 = .ok (.iconst 2, 1) := by decide +kernel
theorem d_Model_eRead_35 : decode b_Model_eRead 35 = .ok (.if_icmp .ne 40, 3) := by decide +kernel
theorem d_Model_eRead_38 : decode b_Model_eRead 38 = .ok (.aload_n 0, 1) := by decide +kernel
theorem d_Model_eRead_39 : decode b_Model_eRead 39 = .ok (.aload_n 0, 1) := by decide +kernel
theorem d_Model_eRead_40 : decode b_Model_eRead 40 = .ok (.getfield 105, 3) := by decide +kernel
theorem d_Model_eRead_43 : decode b_Model_eRead 43 = .ok (.iconst 1, 1) := by decide +kernel
theorem d_Model_eRead_44 : decode b_Model_eRead 44 = .ok (.if_icmp .ne 13, 3) := by decide +kernel
theorem d_Model_eRead_47 : decode b_Model_eRead 47 = .ok (.ldc 141, 2) := by decide +kernel
theorem d_Model_eRead_49 : decode b_Model_eRead 49 = .ok (.aload_n 0, 1) := by decide +kernel
theorem d_Model_eRead_50 : decode b_Model_eRead 50 = .ok (.getfield 108, 3) := by decide +kernel
theorem d_Model_eRead_53 : decode b_Model_eRead 53 = .ok (.iadd, 1) := by decide +kernel
theorem d_Model_eRead_54 : decode b_Model_eRead 54 = .ok (.goto 7, 3) := by decide +kernel
theorem d_Model_eRead_57 : decode b_Model_eRead 57 = .ok (.aload_n 0, 1) := by decide +kernel
theorem d_Model_eRead_58 : decode b_Model_eRead 58 = .ok (.getfield 108, 3) := by decide +kernel
theorem d_Model_eRead_61 : decode b_Model_eRead 61 = .ok (.invokevirtual 128, 3) := by decide +kernel
theorem d_Model_eRead_64 : decode b_Model_eRead 64 = .ok (.aload_n 0, 1) := by decide +kernel
theorem d_Model_eRead_65 : decode b_Model_eRead 65 = .ok (.bipush 7, 2) := by decide +kernel
theorem d_Model_eRead_67 : decode b_Model_eRead 67 = .ok (.invokevirtual 135, 3) := by decide +kernel
theorem d_Model_eRead_70 : decode b_Model_eRead 70 = .ok (.iconst 0, 1) := by decide +kernel
theorem d_Model_eRead_71 : decode b_Model_eRead 71 = .ok (.istore_n 1, 1) := by decide +kernel
theorem d_Model_eRead_72 : decode b_Model_eRead 72 = .ok (.goto (-58), 3) := by decide +kernel
theorem d_Model_eRead_75 : decode b_Model_eRead 75 = .ok (.aload_n 0, 1) := by decide +kernel
theorem d_Model_eRead_76 : decode b_Model_eRead 76 = .ok (.getfield 105, 3) := by decide +kernel
theorem d_Model_eRead_79 : decode b_Model_eRead 79 = .ok (.bipush 6, 2) := by decide +kernel
theorem d_Model_eRead_81 : decode b_Model_eRead 81 = .ok (.if_icmp .ne 18, 3) := by decide +kernel
theorem d_Model_eRead_84 : decode b_Model_eRead 84 = .ok (.iload_n 2, 1) := by decide +kernel
theorem d_Model_eRead_85 : decode b_Model_eRead 85 = .ok (.ifCond .eq 14, 3) := by decide +kernel
theorem d_Model_eRead_88 : decode b_Model_eRead 88 = .ok (.aload_n 0, 1) := by decide +kernel
theorem d_Model_eRead_89 : decode b_Model_eRead 89 = .ok (.bipush 13, 2) := by decide +kernel
theorem d_Model_eRead_91 : decode b_Model_eRead 91 = .ok (.invokevirtual 142, 3) := by decide +kernel
theorem d_Model_eRead_94 : decode b_Model_eRead 94 = .ok (.ifCond .ne (-80), 3) := by decide +kernel
theorem d_Model_eRead_97 : decode b_Model_eRead 97 = .ok (.iconst 0, 1) := by decide +kernel
theorem d_Model_eRead_98 : decode b_Model_eRead 98 = .ok (.ireturn, 1) := by decide +kernel
theorem d_Model_eRead_99 : decode b_Model_eRead 99 = .ok (.aload_n 0, 1) := by decide +kernel
theorem d_Model_eRead_100 : decode b_Model_eRead 100 = .ok (.getfield 105, 3) := by decide +kernel
theorem d_Model_eRead_103 : decode b_Model_eRead 103 = .ok (.bipush 45, 2) := by decide +kernel
theorem d_Model_eRead_105 : decode b_Model_eRead 105 = .ok (.if_icmp .ne 19, 3) := by decide +kernel
theorem d_Model_eRead_108 : decode b_Model_eRead 108 = .ok (.aload_n 0, 1) := by decide +kernel
theorem d_Model_eRead_109 : decode b_Model_eRead 109 = .ok (.bipush 19, 2) := by decide +kernel
theorem d_Model_eRead_111 : decode b_Model_eRead 111 = .ok (.invokevirtual 142, 3) := by decide +kernel
theorem d_Model_eRead_114 : decode b_Model_eRead 114 = .ok (.ifCond .ne 5, 3) := by decide +kernel
theorem d_Model_eRead_117 : decode b_Model_eRead 117 = .ok (.iconst 0, 1) := by decide +kernel
theorem d_Model_eRead_118 : decode b_Model_eRead 118 = .ok (.ireturn, 1) := by decide +kernel
theorem d_Model_eRead_119 : decode b_Model_eRead 119 = .ok (.iconst 0, 1) := by decide +kernel
theorem d_Model_eRead_120 : decode b_Model_eRead 120 = .ok (.istore_n 2, 1) := by decide +kernel
theorem d_Model_eRead_121 : decode b_Model_eRead 121 = .ok (.goto (-107), 3) := by decide +kernel
theorem d_Model_eRead_124 : decode b_Model_eRead 124 = .ok (.aload_n 0, 1) := by decide +kernel
theorem d_Model_eRead_125 : decode b_Model_eRead 125 = .ok (.getfield 105, 3) := by decide +kernel
theorem d_Model_eRead_128 : decode b_Model_eRead 128 = .ok (.bipush 40, 2) := by decide +kernel
theorem d_Model_eRead_130 : decode b_Model_eRead 130 = .ok (.if_icmp .ne 18, 3) := by decide +kernel
theorem d_Model_eRead_133 : decode b_Model_eRead 133 = .ok (.aload_n 0, 1) := by decide +kernel
theorem d_Model_eRead_134 : decode b_Model_eRead 134 = .ok (.iconst 0, 1) := by decide +kernel
theorem d_Model_eRead_135 : decode b_Model_eRead 135 = .ok (.invokevirtual 142, 3) := by decide +kernel
theorem d_Model_eRead_138 : decode b_Model_eRead 138 = .ok (.ifCond .ne 5, 3) := by decide +kernel
theorem d_Model_eRead_141 : decode b_Model_eRead 141 = .ok (.iconst 0, 1) := by decide +kernel
theorem d_Model_eRead_142 : decode b_Model_eRead 142 = .ok (.ireturn, 1) := by decide +kernel
theorem d_Model_eRead_143 : decode b_Model_eRead 143 = .ok (.iconst 1, 1) := by decide +kernel
theorem d_Model_eRead_144 : decode b_Model_eRead 144 = .ok (.istore_n 2, 1) := by decide +kernel
theorem d_Model_eRead_145 : decode b_Model_eRead 145 = .ok (.goto (-131), 3) := by decide +kernel
theorem d_Model_eRead_148 : decode b_Model_eRead 148 = .ok (.iconst 0, 1) := by decide +kernel
theorem d_Model_eRead_149 : decode b_Model_eRead 149 = .ok (.ireturn, 1) := by decide +kernel
theorem d_Model_eRead_150 : decode b_Model_eRead 150 = .ok (.aload_n 0, 1) := by decide +kernel
theorem d_Model_eRead_151 : decode b_Model_eRead 151 = .ok (.getfield 105, 3) := by decide +kernel
theorem d_Model_eRead_154 : decode b_Model_eRead 154 = .ok (.bipush 59, 2) := by decide +kernel
theorem d_Model_eRead_156 : decode b_Model_eRead 156 = .ok (.if_icmp .ne 21, 3) := by decide +kernel
theorem d_Model_eRead_159 : decode b_Model_eRead 159 = .ok (.aload_n 0, 1) := by decide +kernel
theorem d_Model_eRead_160 : decode b_Model_eRead 160 = .ok (.iconst 1, 1) := by decide +kernel
theorem d_Model_eRead_161 : decode b_Model_eRead 161 = .ok (.invokevirtual 135, 3) := by decide +kernel
theorem d_Model_eRead_164 : decode b_Model_eRead 164 = .ok (.aload_n 0, 1) := by decide +kernel
theorem d_Model_eRead_165 : decode b_Model_eRead 165 = .ok (.getfield 118, 3) := by decide +kernel
theorem d_Model_eRead_168 : decode b_Model_eRead 168 = .ok (.ifCond .ne 7, 3) := by decide +kernel
theorem d_Model_eRead_171 : decode b_Model_eRead 171 = .ok (.iconst 1, 1) := by decide +kernel
theorem d_Model_eRead_172 : decode b_Model_eRead 172 = .ok (.goto 4, 3) := by decide +kernel
theorem d_Model_eRead_175 : decode b_Model_eRead 175 = .ok (.iconst 0, 1) := by decide +kernel
theorem d_Model_eRead_176 : decode b_Model_eRead 176 = .ok (.ireturn, 1) := by decide +kernel
theorem d_Model_eRead_177 : decode b_Model_eRead 177 = .ok (.aload_n 0, 1) := by decide +kernel
theorem d_Model_eRead_178 : decode b_Model_eRead 178 = .ok (.getfield 105, 3) := by decide +kernel
theorem d_Model_eRead_181 : decode b_Model_eRead 181 = .ok (.bipush 41, 2) := by decide +kernel
theorem d_Model_eRead_183 : decode b_Model_eRead 183 = .ok (.if_icmp .ne 46, 3) := by decide +kernel
theorem d_Model_eRead_186 : decode b_Model_eRead 186 = .ok (.aload_n 0, 1) := by decide +kernel
theorem d_Model_eRead_187 : decode b_Model_eRead 187 = .ok (.iconst 1, 1) := by decide +kernel
theorem d_Model_eRead_188 : decode b_Model_eRead 188 = .ok (.invokevirtual 135, 3) := by decide +kernel
theorem d_Model_eRead_191 : decode b_Model_eRead 191 = .ok (.aload_n 0, 1) := by decide +kernel
theorem d_Model_eRead_192 : decode b_Model_eRead 192 = .ok (.getfield 118, 3) := by decide +kernel
theorem d_Model_eRead_195 : decode b_Model_eRead 195 = .ok (.ifCond .ne 5, 3) := by decide +kernel
theorem d_Model_eRead_198 : decode b_Model_eRead 198 = .ok (.iconst 0, 1) := by decide +kernel
theorem d_Model_eRead_199 : decode b_Model_eRead 199 = .ok (.ireturn, 1) := by decide +kernel
theorem d_Model_eRead_200 : decode b_Model_eRead 200 = .ok (.aload_n 0, 1) := by decide +kernel
theorem d_Model_eRead_201 : decode b_Model_eRead 201 = .ok (.dup, 1) := by decide +kernel
theorem d_Model_eRead_202 : decode b_Model_eRead 202 = .ok (.getfield 118, 3) := by decide +kernel
theorem d_Model_eRead_205 : decode b_Model_eRead 205 = .ok (.iconst 1, 1) := by decide +kernel
theorem d_Model_eRead_206 : decode b_Model_eRead 206 = .ok (.isub, 1) := by decide +kernel
theorem d_Model_eRead_207 : decode b_Model_eRead 207 = .ok (.putfield 118, 3) := by decide +kernel
theorem d_Model_eRead_210 : decode b_Model_eRead 210 = .ok (.aload_n 0, 1) := by decide +kernel
theorem d_Model_eRead_211 : decode b_Model_eRead 211 = .ok (.dup, 1) := by decide +kernel
theorem d_Model_eRead_212 : decode b_Model_eRead 212 = .ok (.getfield 125, 3) := by decide +kernel
theorem d_Model_eRead_215 : decode b_Model_eRead 215 = .ok (.iconst 1, 1) := by decide +kernel
theorem d_Model_eRead_216 : decode b_Model_eRead 216 = .ok (.isub, 1) := by decide +kernel
theorem d_Model_eRead_217 : decode b_Model_eRead 217 = .ok (.putfield 125, 3) := by decide +kernel
theorem d_Model_eRead_220 : decode b_Model_eRead 220 = .ok (.aload_n 0, 1) := by decide +kernel
theorem d_Model_eRead_221 : decode b_Model_eRead 221 = .ok (.bipush 7, 2) := by decide +kernel
theorem d_Model_eRead_223 : decode b_Model_eRead 223 = .ok (.invokevirtual 135, 3) := by decide +kernel
theorem d_Model_eRead_226 : decode b_Model_eRead 226 = .ok (.goto (-212), 3) := by decide +kernel
theorem d_Model_eRead_229 : decode b_Model_eRead 229 = .ok (.aload_n 0, 1) := by decide +kernel
theorem d_Model_eRead_230 : decode b_Model_eRead 230 = .ok (.invokevirtual 145, 3) := by decide +kernel
theorem d_Model_eRead_233 : decode b_Model_eRead 233 = .ok (.istore_n 3, 1) := by decide +kernel
theorem d_Model_eRead_234 : decode b_Model_eRead 234 = .ok (.iload_n 3, 1) := by decide +kernel
theorem d_Model_eRead_235 : decode b_Model_eRead 235 = .ok (.iconst (-1), 1) := by decide +kernel
theorem d_Model_eRead_236 : decode b_Model_eRead 236 = .ok (.if_icmp .eq 11, 3) := by decide +kernel
theorem d_Model_eRead_239 : decode b_Model_eRead 239 = .ok (.aload_n 0, 1) := by decide +kernel
theorem d_Model_eRead_240 : decode b_Model_eRead 240 = .ok (.iload_n 3, 1) := by decide +kernel
theorem d_Model_eRead_241 : decode b_Model_eRead 241 = .ok (.invokevirtual 148, 3) := by decide +kernel
theorem d_Model_eRead_244 : decode b_Model_eRead 244 = .ok (.ifCond .ne 5, 3) := by decide +kernel
theorem d_Model_eRead_247 : decode b_Model_eRead 247 = .ok (.iconst 0, 1) := by decide +kernel
theorem d_Model_eRead_248 : decode b_Model_eRead 248 = .ok (.ireturn, 1) := by decide +kernel
theorem d_Model_eRead_249 : decode b_Model_eRead 249 = .ok (.iconst 1, 1) := by decide +kernel
theorem d_Model_eRead_250 : decode b_Model_eRead 250 = .ok (.istore_n 1, 1) := by decide +kernel
theorem d_Model_eRead_251 : decode b_Model_eRead 251 = .ok (.iload_n 3, 1) := by decide +kernel
theorem d_Model_eRead_252 : decode b_Model_eRead 252 = .ok (.bipush 12, 2) := by decide +kernel
theorem d_Model_eRead_254 : decode b_Model_eRead 254 = .ok (.if_icmp .gt 7, 3) := by decide +kernel
theorem d_Model_eRead_257 : decode b_Model_eRead 257 = .ok (.iconst 1, 1) := by decide +kernel
theorem d_Model_eRead_258 : decode b_Model_eRead 258 = .ok (.goto 4, 3) := by decide +kernel
theorem d_Model_eRead_261 : decode b_Model_eRead 261 = .ok (.iconst 0, 1) := by decide +kernel
theorem d_Model_eRead_262 : decode b_Model_eRead 262 = .ok (.istore_n 2, 1) := by decide +kernel
theorem d_Model_eRead_263 : decode b_Model_eRead 263 = .ok (.goto (-249), 3) := by decide +kernel
section S_Model_eRead
variable {p : Program} {l : Launch} {e : Env} {s : State} {m : MethodId} {args : Array Value} {below : List Frame} {meth : Method} {c : Code} {D : va_G} {cA : Nat → ClassId} {ad : Nat → Nat} {nC : Nat} {A : Nat → Prop} {r : Int32} {τ : St}
noncomputable def F_Model_eRead_262 (k10 : (St → Int32 → Int32 → Option (Int32 × St))) (s0 : St) (v1 : Int32) (t0 : Int32) : Option (Int32 × St) := (k10 s0 v1 t0)
set_option maxHeartbeats 4000000 in
set_option maxRecDepth 100000 in
theorem q_Model_eRead_262 (K : Fx p s m args meth c b_Model_eRead 4 R_Model (some .boolean)) (k10 : (St → Int32 → Int32 → Option (Int32 × St))) (hk10 : ∀ (H : Heap) (locs : List Loc) (ls : Array Slot) (s0 : St) (v1 : Int32) (v2 : Int32), Wh D cA ad shM A s s0 H locs → lv_has ls 4 [(0, .ref (ad 0)), (1, .int v1), (2, .int v2)] → k10 s0 v1 v2 = (some (r, τ)) → W p l e rm_Model_eRead s m args below meth c H locs 0 0 (MQ below (QcI D cA ad shM A r τ) args s 0 0 A) (F0 m 14 ls [])) : ∀ (H : Heap) (locs : List Loc) (ls : Array Slot) (s0 : St) (v1 : Int32) (t0 : Int32), Wh D cA ad shM A s s0 H locs → lv_has ls 4 [(0, .ref (ad 0)), (1, .int v1)] → F_Model_eRead_262 k10 s0 v1 t0 = (some (r, τ)) → W p l e rm_Model_eRead s m args below meth c H locs 0 0 (MQ below (QcI D cA ad shM A r τ) args s 0 0 A) (F0 m 262 ls [.int t0]) := by
  have hx := K.1.1; have hb := K.1.2.1
  intro H locs ls s0 v1 t0 hw hl hF
  unfold F_Model_eRead_262 at hF
  refine lv_istore_n (lv' := [(2, .int t0), (0, .ref (ad 0)), (1, .int v1)]) hx hb d_Model_eRead_262 rfl hl (by decide) rfl (fun ls hl => ?_)
  refine lv_goto (tgt := 14) hx hb d_Model_eRead_263 (by decide) ?_
  exact hk10 _ _ _ _ _ _  hw (lv_sub hl [1, 2, 0] rfl) hF
noncomputable def F_Model_eRead_61 (k10 : (St → Int32 → Int32 → Option (Int32 × St))) (s0 : St) (v2 : Int32) (t1 : Int32) : Option (Int32 × St) := (ob1 (F_Model_puts s0 t1) (fun s_21 => (ob1 (F_Model_unwinds s_21 (7 : Int32)) (fun s_22 => (k10 s_22 (0 : Int32) v2)))))
set_option maxHeartbeats 4000000 in
set_option maxRecDepth 100000 in
theorem q_Model_eRead_61 (K : Fx p s m args meth c b_Model_eRead 4 R_Model (some .boolean)) (k10 : (St → Int32 → Int32 → Option (Int32 × St))) (hk10 : ∀ (H : Heap) (locs : List Loc) (ls : Array Slot) (s0 : St) (v1 : Int32) (v2 : Int32), Wh D cA ad shM A s s0 H locs → lv_has ls 4 [(0, .ref (ad 0)), (1, .int v1), (2, .int v2)] → k10 s0 v1 v2 = (some (r, τ)) → W p l e rm_Model_eRead s m args below meth c H locs 0 0 (MQ below (QcI D cA ad shM A r τ) args s 0 0 A) (F0 m 14 ls [])) : ∀ (H : Heap) (locs : List Loc) (ls : Array Slot) (s0 : St) (v2 : Int32) (t1 : Int32), Wh D cA ad shM A s s0 H locs → lv_has ls 4 [(0, .ref (ad 0)), (2, .int v2)] → F_Model_eRead_61 k10 s0 v2 t1 = (some (r, τ)) → W p l e rm_Model_eRead s m args below meth c H locs 0 0 (MQ below (QcI D cA ad shM A r τ) args s 0 0 A) (F0 m 61 ls [.int t1, .ref (ad 0)]) := by
  have hx := K.1.1; have hb := K.1.2.1
  intro H locs ls s0 v2 t1 hw hl hF
  unfold F_Model_eRead_61 at hF
  obtain ⟨s_21, h_s_21, hF⟩ := ob1E hF
  refine r_callVV (As := [.int t1]) (rest := []) K hw hl.1 (c_Model_puts (l := l) (D := D) (cA := cA) (ad := ad) (s0 := s0)   h_s_21) sh_Model rfl (tb_gV w_998 w_1000 w_33 w_80 w_1001) a_Model_puts ⟨rfl, rfl, Nat.le_of_ble_eq_true rfl, Nat.le_of_ble_eq_true rfl⟩ rfl rfl (Nat.le_of_ble_eq_true rfl) d_Model_eRead_61 (fun H locs hw => ?_)
  refine lv_aload_n hx hb d_Model_eRead_64 rfl (lv_at hl 0 rfl) ?_
  refine lv_bipush (v := 7) hx hb d_Model_eRead_65 (by decide) ?_
  obtain ⟨s_22, h_s_22, hF⟩ := ob1E hF
  refine r_callVV (As := [.int (7 : Int32)]) (rest := []) K hw hl.1 (c_Model_unwinds (l := l) (D := D) (cA := cA) (ad := ad) (s0 := s_21)   h_s_22) sh_Model rfl (tb_gV w_1002 w_1004 w_34 w_80 w_1005) a_Model_unwinds ⟨rfl, rfl, Nat.le_of_ble_eq_true rfl, Nat.le_of_ble_eq_true rfl⟩ rfl rfl (Nat.le_of_ble_eq_true rfl) d_Model_eRead_67 (fun H locs hw => ?_)
  refine lv_iconst (v := 0) hx hb d_Model_eRead_70 (by decide) ?_
  refine lv_istore_n (lv' := [(1, .int (0 : Int32)), (0, .ref (ad 0)), (2, .int v2)]) hx hb d_Model_eRead_71 rfl hl (by decide) rfl (fun ls hl => ?_)
  refine lv_goto (tgt := 14) hx hb d_Model_eRead_72 (by decide) ?_
  exact hk10 _ _ _ _ _ _  hw (lv_sub hl [1, 0, 2] rfl) hF
noncomputable def F_Model_eRead_38 (k10 : (St → Int32 → Int32 → Option (Int32 × St))) (s0 : St) (v2 : Int32) : Option (Int32 × St) := (if ¬ (s0.1 0 23) = (1 : Int32) then (F_Model_eRead_61 k10 s0 v2 (s0.1 0 24)) else (F_Model_eRead_61 k10 s0 v2 ((100000 : Int32) + (s0.1 0 24))))
set_option maxHeartbeats 4000000 in
set_option maxRecDepth 100000 in
theorem q_Model_eRead_38 (K : Fx p s m args meth c b_Model_eRead 4 R_Model (some .boolean)) (k10 : (St → Int32 → Int32 → Option (Int32 × St))) (hk10 : ∀ (H : Heap) (locs : List Loc) (ls : Array Slot) (s0 : St) (v1 : Int32) (v2 : Int32), Wh D cA ad shM A s s0 H locs → lv_has ls 4 [(0, .ref (ad 0)), (1, .int v1), (2, .int v2)] → k10 s0 v1 v2 = (some (r, τ)) → W p l e rm_Model_eRead s m args below meth c H locs 0 0 (MQ below (QcI D cA ad shM A r τ) args s 0 0 A) (F0 m 14 ls [])) : ∀ (H : Heap) (locs : List Loc) (ls : Array Slot) (s0 : St) (v2 : Int32), Wh D cA ad shM A s s0 H locs → lv_has ls 4 [(0, .ref (ad 0)), (2, .int v2)] → F_Model_eRead_38 k10 s0 v2 = (some (r, τ)) → W p l e rm_Model_eRead s m args below meth c H locs 0 0 (MQ below (QcI D cA ad shM A r τ) args s 0 0 A) (F0 m 38 ls []) := by
  have hx := K.1.1; have hb := K.1.2.1
  intro H locs ls s0 v2 hw hl hF
  unfold F_Model_eRead_38 at hF
  refine lv_aload_n hx hb d_Model_eRead_38 rfl (lv_at hl 0 rfl) ?_
  refine lv_aload_n hx hb d_Model_eRead_39 rfl (lv_at hl 0 rfl) ?_
  refine r_get (v := .int (s0.1 0 23)) K hw i_Model sh_Model rfl 23 (by decide) w_1048 rfl rfl rfl d_Model_eRead_40 ?_
  refine lv_iconst (v := 1) hx hb d_Model_eRead_43 (by decide) ?_
  refine lv_icmp_ne (tgt := 57) hx hb d_Model_eRead_44 (by decide) (fun c_20 => ?_) (fun c_20 => ?_)
  · replace hF := ifT hF c_20
    refine lv_aload_n hx hb d_Model_eRead_57 rfl (lv_at hl 0 rfl) ?_
    refine r_get (v := .int (s0.1 0 24)) K hw i_Model sh_Model rfl 24 (by decide) w_1049 rfl rfl rfl d_Model_eRead_58 ?_
    exact q_Model_eRead_61 K k10 hk10 _ _ _ _ _ _  hw (lv_sub hl [0, 1] rfl) hF
  · replace hF := ifN hF c_20
    refine lv_ldc (v := 100000) hx hb K.1.2.2.2.1 (K.1.2.2.2.2 _ w_997) d_Model_eRead_47 ?_
    refine lv_aload_n hx hb d_Model_eRead_49 rfl (lv_at hl 0 rfl) ?_
    refine r_get (v := .int (s0.1 0 24)) K hw i_Model sh_Model rfl 24 (by decide) w_1049 rfl rfl rfl d_Model_eRead_50 ?_
    refine lv_iadd hx hb d_Model_eRead_53 ?_
    refine lv_goto (tgt := 61) hx hb d_Model_eRead_54 (by decide) ?_
    exact q_Model_eRead_61 K k10 hk10 _ _ _ _ _ _  hw (lv_sub hl [0, 1] rfl) hF
noncomputable def F_Model_eRead_99 (k10 : (St → Int32 → Int32 → Option (Int32 × St))) (s0 : St) (v1 : Int32) : Option (Int32 × St) := (if ¬ (s0.1 0 23) = (45 : Int32) then (if ¬ (s0.1 0 23) = (40 : Int32) then (some ((0 : Int32), s0)) else (ob2 (F_Model_opensOne s0 (0 : Int32)) (fun r_27 s_28 => (if ¬ r_27 = 0 then (k10 s_28 v1 (1 : Int32)) else (some ((0 : Int32), s_28)))))) else (ob2 (F_Model_opensOne s0 (19 : Int32)) (fun r_30 s_31 => (if ¬ r_30 = 0 then (k10 s_31 v1 (0 : Int32)) else (some ((0 : Int32), s_31))))))
set_option maxHeartbeats 4000000 in
set_option maxRecDepth 100000 in
theorem q_Model_eRead_99 (K : Fx p s m args meth c b_Model_eRead 4 R_Model (some .boolean)) (k10 : (St → Int32 → Int32 → Option (Int32 × St))) (hk10 : ∀ (H : Heap) (locs : List Loc) (ls : Array Slot) (s0 : St) (v1 : Int32) (v2 : Int32), Wh D cA ad shM A s s0 H locs → lv_has ls 4 [(0, .ref (ad 0)), (1, .int v1), (2, .int v2)] → k10 s0 v1 v2 = (some (r, τ)) → W p l e rm_Model_eRead s m args below meth c H locs 0 0 (MQ below (QcI D cA ad shM A r τ) args s 0 0 A) (F0 m 14 ls [])) : ∀ (H : Heap) (locs : List Loc) (ls : Array Slot) (s0 : St) (v1 : Int32), Wh D cA ad shM A s s0 H locs → lv_has ls 4 [(0, .ref (ad 0)), (1, .int v1)] → F_Model_eRead_99 k10 s0 v1 = (some (r, τ)) → W p l e rm_Model_eRead s m args below meth c H locs 0 0 (MQ below (QcI D cA ad shM A r τ) args s 0 0 A) (F0 m 99 ls []) := by
  have hx := K.1.1; have hb := K.1.2.1
  intro H locs ls s0 v1 hw hl hF
  unfold F_Model_eRead_99 at hF
  refine lv_aload_n hx hb d_Model_eRead_99 rfl (lv_at hl 0 rfl) ?_
  refine r_get (v := .int (s0.1 0 23)) K hw i_Model sh_Model rfl 23 (by decide) w_1048 rfl rfl rfl d_Model_eRead_100 ?_
  refine lv_bipush (v := 45) hx hb d_Model_eRead_103 (by decide) ?_
  refine lv_icmp_ne (tgt := 124) hx hb d_Model_eRead_105 (by decide) (fun c_25 => ?_) (fun c_25 => ?_)
  · replace hF := ifT hF c_25
    refine lv_aload_n hx hb d_Model_eRead_124 rfl (lv_at hl 0 rfl) ?_
    refine r_get (v := .int (s0.1 0 23)) K hw i_Model sh_Model rfl 23 (by decide) w_1048 rfl rfl rfl d_Model_eRead_125 ?_
    refine lv_bipush (v := 40) hx hb d_Model_eRead_128 (by decide) ?_
    refine lv_icmp_ne (tgt := 148) hx hb d_Model_eRead_130 (by decide) (fun c_26 => ?_) (fun c_26 => ?_)
    · replace hF := ifT hF c_26
      refine lv_iconst (v := 0) hx hb d_Model_eRead_148 (by decide) ?_
      obtain ⟨hF, hG⟩ := sE2 hF
      subst hF
      subst hG
      exact r_zret K hw (by decide) d_Model_eRead_149
    · replace hF := ifN hF c_26
      refine lv_aload_n hx hb d_Model_eRead_133 rfl (lv_at hl 0 rfl) ?_
      refine lv_iconst (v := 0) hx hb d_Model_eRead_134 (by decide) ?_
      obtain ⟨r_27, s_28, h_s_28, hF⟩ := ob2E hF
      refine r_callVI (As := [.int (0 : Int32)]) (rest := []) K hw hl.1 (c_Model_opensOne (l := l) (D := D) (cA := cA) (ad := ad) (s0 := s0)   h_s_28) sh_Model rfl (tb_gV w_1009 w_1011 w_35 w_80 w_1012) a_Model_opensOne ⟨rfl, rfl, Nat.le_of_ble_eq_true rfl, Nat.le_of_ble_eq_true rfl⟩ rfl rfl (Nat.le_of_ble_eq_true rfl) d_Model_eRead_135 (fun H locs hw => ?_)
      refine lv_if_ne (tgt := 143) hx hb d_Model_eRead_138 (by decide) (fun c_29 => ?_) (fun c_29 => ?_)
      · replace hF := ifT hF c_29
        refine lv_iconst (v := 1) hx hb d_Model_eRead_143 (by decide) ?_
        refine lv_istore_n (lv' := [(2, .int (1 : Int32)), (0, .ref (ad 0)), (1, .int v1)]) hx hb d_Model_eRead_144 rfl hl (by decide) rfl (fun ls hl => ?_)
        refine lv_goto (tgt := 14) hx hb d_Model_eRead_145 (by decide) ?_
        exact hk10 _ _ _ _ _ _  hw (lv_sub hl [1, 2, 0] rfl) hF
      · replace hF := ifN hF c_29
        refine lv_iconst (v := 0) hx hb d_Model_eRead_141 (by decide) ?_
        obtain ⟨hF, hG⟩ := sE2 hF
        subst hF
        subst hG
        exact r_zret K hw (by decide) d_Model_eRead_142
  · replace hF := ifN hF c_25
    refine lv_aload_n hx hb d_Model_eRead_108 rfl (lv_at hl 0 rfl) ?_
    refine lv_bipush (v := 19) hx hb d_Model_eRead_109 (by decide) ?_
    obtain ⟨r_30, s_31, h_s_31, hF⟩ := ob2E hF
    refine r_callVI (As := [.int (19 : Int32)]) (rest := []) K hw hl.1 (c_Model_opensOne (l := l) (D := D) (cA := cA) (ad := ad) (s0 := s0)   h_s_31) sh_Model rfl (tb_gV w_1009 w_1011 w_35 w_80 w_1012) a_Model_opensOne ⟨rfl, rfl, Nat.le_of_ble_eq_true rfl, Nat.le_of_ble_eq_true rfl⟩ rfl rfl (Nat.le_of_ble_eq_true rfl) d_Model_eRead_111 (fun H locs hw => ?_)
    refine lv_if_ne (tgt := 119) hx hb d_Model_eRead_114 (by decide) (fun c_32 => ?_) (fun c_32 => ?_)
    · replace hF := ifT hF c_32
      refine lv_iconst (v := 0) hx hb d_Model_eRead_119 (by decide) ?_
      refine lv_istore_n (lv' := [(2, .int (0 : Int32)), (0, .ref (ad 0)), (1, .int v1)]) hx hb d_Model_eRead_120 rfl hl (by decide) rfl (fun ls hl => ?_)
      refine lv_goto (tgt := 14) hx hb d_Model_eRead_121 (by decide) ?_
      exact hk10 _ _ _ _ _ _  hw (lv_sub hl [1, 2, 0] rfl) hF
    · replace hF := ifN hF c_32
      refine lv_iconst (v := 0) hx hb d_Model_eRead_117 (by decide) ?_
      obtain ⟨hF, hG⟩ := sE2 hF
      subst hF
      subst hG
      exact r_zret K hw (by decide) d_Model_eRead_118
noncomputable def F_Model_eRead_14 : Nat → St → Int32 → Int32 → Option (Int32 × St)
  | 0, _, _, _ => none
  | n + 1, s0, v1, v2 => (ob1 (F_Model_next s0 ) (fun s_3 => (if v1 = 0 then (if ¬ (s_3.1 0 23) = (59 : Int32) then (if ¬ (s_3.1 0 23) = (41 : Int32) then (if (F_Model_signOf s_3 ) = (-1 : Int32) then (some ((0 : Int32), s_3)) else (ob2 (F_Model_between s_3 (F_Model_signOf s_3 )) (fun r_8 s_9 => (if ¬ r_8 = 0 then (if (12 : Int32) < (F_Model_signOf s_3 ) then (F_Model_eRead_262 (fun z0 zv1 zv2 => F_Model_eRead_14 n z0 zv1 zv2) s_9 (1 : Int32) (0 : Int32)) else (F_Model_eRead_262 (fun z0 zv1 zv2 => F_Model_eRead_14 n z0 zv1 zv2) s_9 (1 : Int32) (1 : Int32))) else (some ((0 : Int32), s_9)))))) else (ob1 (F_Model_unwinds s_3 (1 : Int32)) (fun s_12 => (if ¬ (s_12.1 0 27) = 0 then (lt (up1 s_12 0 27 ((s_12.1 0 27) - (1 : Int32))) (fun s_14 => (lt (up1 s_14 0 28 ((s_14.1 0 28) - (1 : Int32))) (fun s_15 => (ob1 (F_Model_unwinds s_15 (7 : Int32)) (fun s_16 => (F_Model_eRead_14 n s_16 v1 v2))))))) else (some ((0 : Int32), s_12)))))) else (ob1 (F_Model_unwinds s_3 (1 : Int32)) (fun s_17 => (if ¬ (s_17.1 0 27) = 0 then (some ((0 : Int32), s_17)) else (some ((1 : Int32), s_17)))))) else (if (s_3.1 0 23) = (1 : Int32) then (F_Model_eRead_38 (fun z0 zv1 zv2 => F_Model_eRead_14 n z0 zv1 zv2) s_3 v2) else (if ¬ (s_3.1 0 23) = (2 : Int32) then (if ¬ (s_3.1 0 23) = (6 : Int32) then (F_Model_eRead_99 (fun z0 zv1 zv2 => F_Model_eRead_14 n z0 zv1 zv2) s_3 v1) else (if v2 = 0 then (F_Model_eRead_99 (fun z0 zv1 zv2 => F_Model_eRead_14 n z0 zv1 zv2) s_3 v1) else (ob2 (F_Model_opensOne s_3 (13 : Int32)) (fun r_34 s_35 => (if ¬ r_34 = 0 then (F_Model_eRead_14 n s_35 v1 v2) else (some ((0 : Int32), s_35))))))) else (F_Model_eRead_38 (fun z0 zv1 zv2 => F_Model_eRead_14 n z0 zv1 zv2) s_3 v2))))))
set_option maxHeartbeats 4000000 in
set_option maxRecDepth 100000 in
theorem q_Model_eRead_14 (K : Fx p s m args meth c b_Model_eRead 4 R_Model (some .boolean))  : ∀ (n : Nat), ∀ (H : Heap) (locs : List Loc) (ls : Array Slot) (s0 : St) (v1 : Int32) (v2 : Int32), Wh D cA ad shM A s s0 H locs → lv_has ls 4 [(0, .ref (ad 0)), (1, .int v1), (2, .int v2)] → F_Model_eRead_14 n s0 v1 v2 = (some (r, τ)) → W p l e rm_Model_eRead s m args below meth c H locs 0 0 (MQ below (QcI D cA ad shM A r τ) args s 0 0 A) (F0 m 14 ls []) := by
  have hx := K.1.1; have hb := K.1.2.1
  intro n
  induction n with
  | zero =>
    intro H locs ls s0 v1 v2 hw hl hF
    exact absurd hF (by rw [F_Model_eRead_14]; exact nofun)
  | succ n ih =>
    intro H locs ls s0 v1 v2 hw hl hF
    rw [F_Model_eRead_14] at hF
    refine lv_aload_n hx hb d_Model_eRead_14 rfl (lv_at hl 0 rfl) ?_
    obtain ⟨s_3, h_s_3, hF⟩ := ob1E hF
    refine r_callVV (As := []) (rest := []) K hw hl.1 (c_Model_next (l := l) (D := D) (cA := cA) (ad := ad) (s0 := s0)   h_s_3) sh_Model rfl (tb_gV w_982 w_984 w_30 w_80 w_985) a_Model_next ⟨rfl, rfl, Nat.le_of_ble_eq_true rfl, Nat.le_of_ble_eq_true rfl⟩ rfl rfl (Nat.le_of_ble_eq_true rfl) d_Model_eRead_15 (fun H locs hw => ?_)
    refine lv_iload_n hx hb d_Model_eRead_18 rfl (lv_at hl 1 rfl) ?_
    refine lv_if_eq (tgt := 150) hx hb d_Model_eRead_19 (by decide) (fun c_4 => ?_) (fun c_4 => ?_)
    · replace hF := ifT hF c_4
      refine lv_aload_n hx hb d_Model_eRead_150 rfl (lv_at hl 0 rfl) ?_
      refine r_get (v := .int (s_3.1 0 23)) K hw i_Model sh_Model rfl 23 (by decide) w_1048 rfl rfl rfl d_Model_eRead_151 ?_
      refine lv_bipush (v := 59) hx hb d_Model_eRead_154 (by decide) ?_
      refine lv_icmp_ne (tgt := 177) hx hb d_Model_eRead_156 (by decide) (fun c_5 => ?_) (fun c_5 => ?_)
      · replace hF := ifT hF c_5
        refine lv_aload_n hx hb d_Model_eRead_177 rfl (lv_at hl 0 rfl) ?_
        refine r_get (v := .int (s_3.1 0 23)) K hw i_Model sh_Model rfl 23 (by decide) w_1048 rfl rfl rfl d_Model_eRead_178 ?_
        refine lv_bipush (v := 41) hx hb d_Model_eRead_181 (by decide) ?_
        refine lv_icmp_ne (tgt := 229) hx hb d_Model_eRead_183 (by decide) (fun c_6 => ?_) (fun c_6 => ?_)
        · replace hF := ifT hF c_6
          refine lv_aload_n hx hb d_Model_eRead_229 rfl (lv_at hl 0 rfl) ?_
          refine r_callVI (As := []) (rest := []) K hw hl.1 (c_Model_signOf (l := l) (D := D) (cA := cA) (ad := ad) (s0 := s_3)   rfl) sh_Model rfl (tb_gV w_1017 w_1019 w_37 w_80 w_1020) a_Model_signOf ⟨rfl, rfl, Nat.le_of_ble_eq_true rfl, Nat.le_of_ble_eq_true rfl⟩ rfl rfl (Nat.le_of_ble_eq_true rfl) d_Model_eRead_230 (fun H locs hw => ?_)
          refine lv_istore_n (lv' := [(3, .int (F_Model_signOf s_3 )), (0, .ref (ad 0)), (1, .int v1), (2, .int v2)]) hx hb d_Model_eRead_233 rfl hl (by decide) rfl (fun ls hl => ?_)
          refine lv_iload_n hx hb d_Model_eRead_234 rfl (lv_at hl 0 rfl) ?_
          refine lv_iconst (v := -1) hx hb d_Model_eRead_235 (by decide) ?_
          refine lv_icmp_eq (tgt := 247) hx hb d_Model_eRead_236 (by decide) (fun c_7 => ?_) (fun c_7 => ?_)
          · replace hF := ifT hF c_7
            refine lv_iconst (v := 0) hx hb d_Model_eRead_247 (by decide) ?_
            obtain ⟨hF, hG⟩ := sE2 hF
            subst hF
            subst hG
            exact r_zret K hw (by decide) d_Model_eRead_248
          · replace hF := ifF hF c_7
            refine lv_aload_n hx hb d_Model_eRead_239 rfl (lv_at hl 1 rfl) ?_
            refine lv_iload_n hx hb d_Model_eRead_240 rfl (lv_at hl 0 rfl) ?_
            obtain ⟨r_8, s_9, h_s_9, hF⟩ := ob2E hF
            refine r_callVI (As := [.int (F_Model_signOf s_3 )]) (rest := []) K hw hl.1 (c_Model_between (l := l) (D := D) (cA := cA) (ad := ad) (s0 := s_3)   h_s_9) sh_Model rfl (tb_gV w_1021 w_1023 w_38 w_80 w_1024) a_Model_between ⟨rfl, rfl, Nat.le_of_ble_eq_true rfl, Nat.le_of_ble_eq_true rfl⟩ rfl rfl (Nat.le_of_ble_eq_true rfl) d_Model_eRead_241 (fun H locs hw => ?_)
            refine lv_if_ne (tgt := 249) hx hb d_Model_eRead_244 (by decide) (fun c_10 => ?_) (fun c_10 => ?_)
            · replace hF := ifT hF c_10
              refine lv_iconst (v := 1) hx hb d_Model_eRead_249 (by decide) ?_
              refine lv_istore_n (lv' := [(1, .int (1 : Int32)), (3, .int (F_Model_signOf s_3 )), (0, .ref (ad 0)), (2, .int v2)]) hx hb d_Model_eRead_250 rfl hl (by decide) rfl (fun ls hl => ?_)
              refine lv_iload_n hx hb d_Model_eRead_251 rfl (lv_at hl 1 rfl) ?_
              refine lv_bipush (v := 12) hx hb d_Model_eRead_252 (by decide) ?_
              refine lv_icmp_gt (tgt := 261) hx hb d_Model_eRead_254 (by decide) (fun c_11 => ?_) (fun c_11 => ?_)
              · replace hF := ifT hF c_11
                refine lv_iconst (v := 0) hx hb d_Model_eRead_261 (by decide) ?_
                exact q_Model_eRead_262 K (fun z0 zv1 zv2 => F_Model_eRead_14 n z0 zv1 zv2) ih _ _ _ _ _ _  hw (lv_sub hl [2, 0] rfl) hF
              · replace hF := ifF hF c_11
                refine lv_iconst (v := 1) hx hb d_Model_eRead_257 (by decide) ?_
                refine lv_goto (tgt := 262) hx hb d_Model_eRead_258 (by decide) ?_
                exact q_Model_eRead_262 K (fun z0 zv1 zv2 => F_Model_eRead_14 n z0 zv1 zv2) ih _ _ _ _ _ _  hw (lv_sub hl [2, 0] rfl) hF
            · replace hF := ifN hF c_10
              refine lv_iconst (v := 0) hx hb d_Model_eRead_247 (by decide) ?_
              obtain ⟨hF, hG⟩ := sE2 hF
              subst hF
              subst hG
              exact r_zret K hw (by decide) d_Model_eRead_248
        · replace hF := ifN hF c_6
          refine lv_aload_n hx hb d_Model_eRead_186 rfl (lv_at hl 0 rfl) ?_
          refine lv_iconst (v := 1) hx hb d_Model_eRead_187 (by decide) ?_
          obtain ⟨s_12, h_s_12, hF⟩ := ob1E hF
          refine r_callVV (As := [.int (1 : Int32)]) (rest := []) K hw hl.1 (c_Model_unwinds (l := l) (D := D) (cA := cA) (ad := ad) (s0 := s_3)   h_s_12) sh_Model rfl (tb_gV w_1002 w_1004 w_34 w_80 w_1005) a_Model_unwinds ⟨rfl, rfl, Nat.le_of_ble_eq_true rfl, Nat.le_of_ble_eq_true rfl⟩ rfl rfl (Nat.le_of_ble_eq_true rfl) d_Model_eRead_188 (fun H locs hw => ?_)
          refine lv_aload_n hx hb d_Model_eRead_191 rfl (lv_at hl 0 rfl) ?_
          refine r_get (v := .int (s_12.1 0 27)) K hw i_Model sh_Model rfl 27 (by decide) w_1052 rfl rfl rfl d_Model_eRead_192 ?_
          refine lv_if_ne (tgt := 200) hx hb d_Model_eRead_195 (by decide) (fun c_13 => ?_) (fun c_13 => ?_)
          · replace hF := ifT hF c_13
            refine lv_aload_n hx hb d_Model_eRead_200 rfl (lv_at hl 0 rfl) ?_
            refine lv_dup hx hb d_Model_eRead_201 rfl ?_
            refine r_get (v := .int (s_12.1 0 27)) K hw i_Model sh_Model rfl 27 (by decide) w_1052 rfl rfl rfl d_Model_eRead_202 ?_
            refine lv_iconst (v := 1) hx hb d_Model_eRead_205 (by decide) ?_
            refine lv_isub hx hb d_Model_eRead_206 ?_
            refine r_putI K hw i_Model t_Model t_Model_ok n_Model sh_Model rfl 27 (by decide) w_1052 rfl rfl rfl rfl rfl d_Model_eRead_207 (fun s_14 f_s_14 H locs hw => ?_)
            replace hF := ltN hF f_s_14
            refine lv_aload_n hx hb d_Model_eRead_210 rfl (lv_at hl 0 rfl) ?_
            refine lv_dup hx hb d_Model_eRead_211 rfl ?_
            refine r_get (v := .int (s_14.1 0 28)) K hw i_Model sh_Model rfl 28 (by decide) w_1053 rfl rfl rfl d_Model_eRead_212 ?_
            refine lv_iconst (v := 1) hx hb d_Model_eRead_215 (by decide) ?_
            refine lv_isub hx hb d_Model_eRead_216 ?_
            refine r_putI K hw i_Model t_Model t_Model_ok n_Model sh_Model rfl 28 (by decide) w_1053 rfl rfl rfl rfl rfl d_Model_eRead_217 (fun s_15 f_s_15 H locs hw => ?_)
            replace hF := ltN hF f_s_15
            refine lv_aload_n hx hb d_Model_eRead_220 rfl (lv_at hl 0 rfl) ?_
            refine lv_bipush (v := 7) hx hb d_Model_eRead_221 (by decide) ?_
            obtain ⟨s_16, h_s_16, hF⟩ := ob1E hF
            refine r_callVV (As := [.int (7 : Int32)]) (rest := []) K hw hl.1 (c_Model_unwinds (l := l) (D := D) (cA := cA) (ad := ad) (s0 := s_15)   h_s_16) sh_Model rfl (tb_gV w_1002 w_1004 w_34 w_80 w_1005) a_Model_unwinds ⟨rfl, rfl, Nat.le_of_ble_eq_true rfl, Nat.le_of_ble_eq_true rfl⟩ rfl rfl (Nat.le_of_ble_eq_true rfl) d_Model_eRead_223 (fun H locs hw => ?_)
            refine lv_goto (tgt := 14) hx hb d_Model_eRead_226 (by decide) ?_
            exact ih _ _ _ _ _ _  hw (lv_sub hl [0, 1, 2] rfl) hF
          · replace hF := ifN hF c_13
            refine lv_iconst (v := 0) hx hb d_Model_eRead_198 (by decide) ?_
            obtain ⟨hF, hG⟩ := sE2 hF
            subst hF
            subst hG
            exact r_zret K hw (by decide) d_Model_eRead_199
      · replace hF := ifN hF c_5
        refine lv_aload_n hx hb d_Model_eRead_159 rfl (lv_at hl 0 rfl) ?_
        refine lv_iconst (v := 1) hx hb d_Model_eRead_160 (by decide) ?_
        obtain ⟨s_17, h_s_17, hF⟩ := ob1E hF
        refine r_callVV (As := [.int (1 : Int32)]) (rest := []) K hw hl.1 (c_Model_unwinds (l := l) (D := D) (cA := cA) (ad := ad) (s0 := s_3)   h_s_17) sh_Model rfl (tb_gV w_1002 w_1004 w_34 w_80 w_1005) a_Model_unwinds ⟨rfl, rfl, Nat.le_of_ble_eq_true rfl, Nat.le_of_ble_eq_true rfl⟩ rfl rfl (Nat.le_of_ble_eq_true rfl) d_Model_eRead_161 (fun H locs hw => ?_)
        refine lv_aload_n hx hb d_Model_eRead_164 rfl (lv_at hl 0 rfl) ?_
        refine r_get (v := .int (s_17.1 0 27)) K hw i_Model sh_Model rfl 27 (by decide) w_1052 rfl rfl rfl d_Model_eRead_165 ?_
        refine lv_if_ne (tgt := 175) hx hb d_Model_eRead_168 (by decide) (fun c_18 => ?_) (fun c_18 => ?_)
        · replace hF := ifT hF c_18
          refine lv_iconst (v := 0) hx hb d_Model_eRead_175 (by decide) ?_
          obtain ⟨hF, hG⟩ := sE2 hF
          subst hF
          subst hG
          exact r_zret K hw (by decide) d_Model_eRead_176
        · replace hF := ifN hF c_18
          refine lv_iconst (v := 1) hx hb d_Model_eRead_171 (by decide) ?_
          refine lv_goto (tgt := 176) hx hb d_Model_eRead_172 (by decide) ?_
          obtain ⟨hF, hG⟩ := sE2 hF
          subst hF
          subst hG
          exact r_zret K hw (by decide) d_Model_eRead_176
    · replace hF := ifF hF c_4
      refine lv_aload_n hx hb d_Model_eRead_22 rfl (lv_at hl 0 rfl) ?_
      refine r_get (v := .int (s_3.1 0 23)) K hw i_Model sh_Model rfl 23 (by decide) w_1048 rfl rfl rfl d_Model_eRead_23 ?_
      refine lv_iconst (v := 1) hx hb d_Model_eRead_26 (by decide) ?_
      refine lv_icmp_eq (tgt := 38) hx hb d_Model_eRead_27 (by decide) (fun c_19 => ?_) (fun c_19 => ?_)
      · replace hF := ifT hF c_19
        exact q_Model_eRead_38 K (fun z0 zv1 zv2 => F_Model_eRead_14 n z0 zv1 zv2) ih _ _ _ _ _  hw (lv_sub hl [0, 2] rfl) hF
      · replace hF := ifF hF c_19
        refine lv_aload_n hx hb d_Model_eRead_30 rfl (lv_at hl 0 rfl) ?_
        refine r_get (v := .int (s_3.1 0 23)) K hw i_Model sh_Model rfl 23 (by decide) w_1048 rfl rfl rfl d_Model_eRead_31 ?_
        refine lv_iconst (v := 2) hx hb d_Model_eRead_34 (by decide) ?_
        refine lv_icmp_ne (tgt := 75) hx hb d_Model_eRead_35 (by decide) (fun c_23 => ?_) (fun c_23 => ?_)
        · replace hF := ifT hF c_23
          refine lv_aload_n hx hb d_Model_eRead_75 rfl (lv_at hl 0 rfl) ?_
          refine r_get (v := .int (s_3.1 0 23)) K hw i_Model sh_Model rfl 23 (by decide) w_1048 rfl rfl rfl d_Model_eRead_76 ?_
          refine lv_bipush (v := 6) hx hb d_Model_eRead_79 (by decide) ?_
          refine lv_icmp_ne (tgt := 99) hx hb d_Model_eRead_81 (by decide) (fun c_24 => ?_) (fun c_24 => ?_)
          · replace hF := ifT hF c_24
            exact q_Model_eRead_99 K (fun z0 zv1 zv2 => F_Model_eRead_14 n z0 zv1 zv2) ih _ _ _ _ _  hw (lv_sub hl [0, 1] rfl) hF
          · replace hF := ifN hF c_24
            refine lv_iload_n hx hb d_Model_eRead_84 rfl (lv_at hl 2 rfl) ?_
            refine lv_if_eq (tgt := 99) hx hb d_Model_eRead_85 (by decide) (fun c_33 => ?_) (fun c_33 => ?_)
            · replace hF := ifT hF c_33
              exact q_Model_eRead_99 K (fun z0 zv1 zv2 => F_Model_eRead_14 n z0 zv1 zv2) ih _ _ _ _ _  hw (lv_sub hl [0, 1] rfl) hF
            · replace hF := ifF hF c_33
              refine lv_aload_n hx hb d_Model_eRead_88 rfl (lv_at hl 0 rfl) ?_
              refine lv_bipush (v := 13) hx hb d_Model_eRead_89 (by decide) ?_
              obtain ⟨r_34, s_35, h_s_35, hF⟩ := ob2E hF
              refine r_callVI (As := [.int (13 : Int32)]) (rest := []) K hw hl.1 (c_Model_opensOne (l := l) (D := D) (cA := cA) (ad := ad) (s0 := s_3)   h_s_35) sh_Model rfl (tb_gV w_1009 w_1011 w_35 w_80 w_1012) a_Model_opensOne ⟨rfl, rfl, Nat.le_of_ble_eq_true rfl, Nat.le_of_ble_eq_true rfl⟩ rfl rfl (Nat.le_of_ble_eq_true rfl) d_Model_eRead_91 (fun H locs hw => ?_)
              refine lv_if_ne (tgt := 14) hx hb d_Model_eRead_94 (by decide) (fun c_36 => ?_) (fun c_36 => ?_)
              · replace hF := ifT hF c_36
                exact ih _ _ _ _ _ _  hw (lv_sub hl [0, 1, 2] rfl) hF
              · replace hF := ifN hF c_36
                refine lv_iconst (v := 0) hx hb d_Model_eRead_97 (by decide) ?_
                obtain ⟨hF, hG⟩ := sE2 hF
                subst hF
                subst hG
                exact r_zret K hw (by decide) d_Model_eRead_98
        · replace hF := ifN hF c_23
          exact q_Model_eRead_38 K (fun z0 zv1 zv2 => F_Model_eRead_14 n z0 zv1 zv2) ih _ _ _ _ _  hw (lv_sub hl [0, 2] rfl) hF
noncomputable def F_Model_eRead_0 (s0 : St) : Option (Int32 × St) := (lt (up1 s0 0 27 (0 : Int32)) (fun s_1 => (lt (up1 s_1 0 28 (0 : Int32)) (fun s_2 => (F_Model_eRead_14 FU s_2 (1 : Int32) (1 : Int32))))))
set_option maxHeartbeats 4000000 in
set_option maxRecDepth 100000 in
theorem q_Model_eRead_0 (K : Fx p s m args meth c b_Model_eRead 4 R_Model (some .boolean))  : ∀ (H : Heap) (locs : List Loc) (ls : Array Slot) (s0 : St), Wh D cA ad shM A s s0 H locs → lv_has ls 4 [(0, .ref (ad 0))] → F_Model_eRead_0 s0 = (some (r, τ)) → W p l e rm_Model_eRead s m args below meth c H locs 0 0 (MQ below (QcI D cA ad shM A r τ) args s 0 0 A) (F0 m 0 ls []) := by
  have hx := K.1.1; have hb := K.1.2.1
  intro H locs ls s0 hw hl hF
  unfold F_Model_eRead_0 at hF
  refine lv_aload_n hx hb d_Model_eRead_0 rfl (lv_at hl 0 rfl) ?_
  refine lv_iconst (v := 0) hx hb d_Model_eRead_1 (by decide) ?_
  refine r_putI K hw i_Model t_Model t_Model_ok n_Model sh_Model rfl 27 (by decide) w_1052 rfl rfl rfl rfl rfl d_Model_eRead_2 (fun s_1 f_s_1 H locs hw => ?_)
  replace hF := ltN hF f_s_1
  refine lv_aload_n hx hb d_Model_eRead_5 rfl (lv_at hl 0 rfl) ?_
  refine lv_iconst (v := 0) hx hb d_Model_eRead_6 (by decide) ?_
  refine r_putI K hw i_Model t_Model t_Model_ok n_Model sh_Model rfl 28 (by decide) w_1053 rfl rfl rfl rfl rfl d_Model_eRead_7 (fun s_2 f_s_2 H locs hw => ?_)
  replace hF := ltN hF f_s_2
  refine lv_iconst (v := 1) hx hb d_Model_eRead_10 (by decide) ?_
  refine lv_istore_n (lv' := [(1, .int (1 : Int32)), (0, .ref (ad 0))]) hx hb d_Model_eRead_11 rfl hl (by decide) rfl (fun ls hl => ?_)
  refine lv_iconst (v := 1) hx hb d_Model_eRead_12 (by decide) ?_
  refine lv_istore_n (lv' := [(2, .int (1 : Int32)), (1, .int (1 : Int32)), (0, .ref (ad 0))]) hx hb d_Model_eRead_13 rfl hl (by decide) rfl (fun ls hl => ?_)
  exact q_Model_eRead_14 K FU _ _ _ _ _ _  hw (lv_sub hl [2, 1, 0] rfl) hF
end S_Model_eRead
noncomputable abbrev F_Model_eRead := F_Model_eRead_0
theorem c_Model_eRead {l : Launch} {D : va_G} {cA : Nat → ClassId} {ad : Nat → Nat} {s0 τ : St} {r : Int32}   (hF : F_Model_eRead s0 = (some (r, τ))) : MI l D cA ad shM y_Model_eRead (wT y_Model_eRead b_Model_eRead 4 (some .boolean)) rm_Model_eRead [.ref (ad 0)] s0 r τ := fun sz => m_start (Qc := fun A => QcI D cA ad shM A r τ) (by decide +kernel) w_996 (Nat.le_of_ble_eq_true rfl) (fun p e s m below meth c ls K hl hw => q_Model_eRead_0 K _ _ _ _   hw hl hF)

/-! Model.text()I -/
abbrev b_Model_text : ByteArray := prog_13_method_21_code
def y_Model_text : MethodName := ⟨R_Model, "text", "()I"⟩
theorem a_Model_text : y_Model_text.cls = R_Model ∧ y_Model_text.cls ≠ "java/lang/invoke/MethodHandle" ∧ y_Model_text.cls ≠ "java/lang/invoke/VarHandle" ∧ (parseMethodDescriptor y_Model_text.desc).map (fun d => d.parameters.length) = some 0 := by decide +kernel
abbrev rm_Model_text : Room := { frames := 4, cells := 0, slots := 0, locals := 87 }
theorem w_1034 : Cond.fieldLink R_Model 31 R_Model "starts" "[I" ∈ TB := tb_in 1034 (by decide +kernel) (by decide +kernel)
theorem w_993 : Cond.methodLink R_Model 151 y_Model_eRead ∈ TB := tb_in 993 (by decide +kernel) (by decide +kernel)
theorem w_995 : Cond.instanceMethod y_Model_eRead ∈ TB := tb_in 995 (by decide +kernel) (by decide +kernel)
theorem w_32 : Cond.selects R_Model y_Model_eRead y_Model_eRead ∈ TB := tb_in 32 (by decide +kernel) (by decide +kernel)
theorem w_981 : Cond.code y_Model_text b_Model_text 3 (some .int) ∈ TB := tb_in 981 (by decide +kernel) (by decide +kernel)
theorem d_Model_text_0 : decode b_Model_text 0 = .ok (.aload_n 0, 1) := by decide +kernel
theorem d_Model_text_1 : decode b_Model_text 1 = .ok (.getfield 90, 3) := by decide +kernel
theorem d_Model_text_4 : decode b_Model_text 4 = .ok (.bipush 6, 2) := by decide +kernel
theorem d_Model_text_6 : decode b_Model_text 6 = .ok (.if_icmp .ne 6, 3) := by decide +kernel
theorem d_Model_text_9 : decode b_Model_text 9 = .ok (.bipush (-4), 2) := by decide +kernel
theorem d_Model_text_11 : decode b_Model_text 11 = .ok (.ireturn, 1) := by decide +kernel
theorem d_Model_text_12 : decode b_Model_text 12 = .ok (.aload_n 0, 1) := by decide +kernel
theorem d_Model_text_13 : decode b_Model_text 13 = .ok (.iconst 0, 1) := by decide +kernel
theorem d_Model_text_14 : decode b_Model_text 14 = .ok (.putfield 99, 3) := by decide +kernel
theorem d_Model_text_17 : decode b_Model_text 17 = .ok (.aload_n 0, 1) := by decide +kernel
theorem d_Model_text_18 : decode b_Model_text 18 = .ok (.iconst 0, 1) := by decide +kernel
theorem d_Model_text_19 : decode b_Model_text 19 = .ok (.putfield 115, 3) := by decide +kernel
theorem d_Model_text_22 : decode b_Model_text 22 = .ok (.iconst 1, 1) := by decide +kernel
theorem d_Model_text_23 : decode b_Model_text 23 = .ok (.istore_n 1, 1) := by decide +kernel
theorem d_Model_text_24 : decode b_Model_text 24 = .ok (.iconst 0, 1) := by decide +kernel
theorem d_Model_text_25 : decode b_Model_text 25 = .ok (.istore_n 2, 1) := by decide +kernel
theorem d_Model_text_26 : decode b_Model_text 26 = .ok (.iload_n 2, 1) := by decide +kernel
theorem d_Model_text_27 : decode b_Model_text 27 = .ok (.iconst 3, 1) := by decide +kernel
theorem d_Model_text_28 : decode b_Model_text 28 = .ok (.if_icmp .ge 73, 3) := by decide +kernel
theorem d_Model_text_31 : decode b_Model_text 31 = .ok (.iload_n 1, 1) := by decide +kernel
theorem d_Model_text_32 : decode b_Model_text 32 = .ok (.ifCond .eq 69, 3) := by decide +kernel
theorem d_Model_text_35 : decode b_Model_text 35 = .ok (.aload_n 0, 1) := by decide +kernel
theorem d_Model_text_36 : decode b_Model_text 36 = .ok (.invokevirtual 138, 3) := by decide +kernel
theorem d_Model_text_39 : decode b_Model_text 39 = .ok (.aload_n 0, 1) := by decide +kernel
theorem d_Model_text_40 : decode b_Model_text 40 = .ok (.getfield 105, 3) := by decide +kernel
theorem d_Model_text_43 : decode b_Model_text 43 = .ok (.iconst 3, 1) := by decide +kernel
theorem d_Model_text_44 : decode b_Model_text 44 = .ok (.if_icmp .ne 15, 3) := by decide +kernel
theorem d_Model_text_47 : decode b_Model_text 47 = .ok (.aload_n 0, 1) := by decide +kernel
theorem d_Model_text_48 : decode b_Model_text 48 = .ok (.getfield 108, 3) := by decide +kernel
theorem d_Model_text_51 : decode b_Model_text 51 = .ok (.iload_n 2, 1) := by decide +kernel
theorem d_Model_text_52 : decode b_Model_text 52 = .ok (.if_icmp .ne 7, 3) := by decide +kernel
theorem d_Model_text_55 : decode b_Model_text 55 = .ok (.iconst 1, 1) := by decide +kernel
theorem d_Model_text_56 : decode b_Model_text 56 = .ok (.goto 4, 3) := by decide +kernel
theorem d_Model_text_59 : decode b_Model_text 59 = .ok (.iconst 0, 1) := by decide +kernel
theorem d_Model_text_60 : decode b_Model_text 60 = .ok (.istore_n 1, 1) := by decide +kernel
theorem d_Model_text_61 : decode b_Model_text 61 = .ok (.aload_n 0, 1) := by decide +kernel
theorem d_Model_text_62 : decode b_Model_text 62 = .ok (.getfield 31, 3) := by decide +kernel
theorem d_Model_text_65 : decode b_Model_text 65 = .ok (.iconst 4, 1) := by decide +kernel
theorem d_Model_text_66 : decode b_Model_text 66 = .ok (.aload_n 0, 1) := by decide +kernel
theorem d_Model_text_67 : decode b_Model_text 67 = .ok (.getfield 90, 3) := by decide +kernel
theorem d_Model_text_70 : decode b_Model_text 70 = .ok (.imul, 1) := by decide +kernel
theorem d_Model_text_71 : decode b_Model_text 71 = .ok (.iload_n 2, 1) := by decide +kernel
theorem d_Model_text_72 : decode b_Model_text 72 = .ok (.iadd, 1) := by decide +kernel
theorem d_Model_text_73 : decode b_Model_text 73 = .ok (.aload_n 0, 1) := by decide +kernel
theorem d_Model_text_74 : decode b_Model_text 74 = .ok (.getfield 115, 3) := by decide +kernel
theorem d_Model_text_77 : decode b_Model_text 77 = .ok (.iastore, 1) := by decide +kernel
theorem d_Model_text_78 : decode b_Model_text 78 = .ok (.iload_n 1, 1) := by decide +kernel
theorem d_Model_text_79 : decode b_Model_text 79 = .ok (.ifCond .eq 14, 3) := by decide +kernel
theorem d_Model_text_82 : decode b_Model_text 82 = .ok (.aload_n 0, 1) := by decide +kernel
theorem d_Model_text_83 : decode b_Model_text 83 = .ok (.invokevirtual 151, 3) := by decide +kernel
theorem d_Model_text_86 : decode b_Model_text 86 = .ok (.ifCond .eq 7, 3) := by decide +kernel
theorem d_Model_text_89 : decode b_Model_text 89 = .ok (.iconst 1, 1) := by decide +kernel
theorem d_Model_text_90 : decode b_Model_text 90 = .ok (.goto 4, 3) := by decide +kernel
theorem d_Model_text_93 : decode b_Model_text 93 = .ok (.iconst 0, 1) := by decide +kernel
theorem d_Model_text_94 : decode b_Model_text 94 = .ok (.istore_n 1, 1) := by decide +kernel
theorem d_Model_text_95 : decode b_Model_text 95 = .ok (.iinc 2 1, 3) := by decide +kernel
theorem d_Model_text_98 : decode b_Model_text 98 = .ok (.goto (-72), 3) := by decide +kernel
theorem d_Model_text_101 : decode b_Model_text 101 = .ok (.iload_n 1, 1) := by decide +kernel
theorem d_Model_text_102 : decode b_Model_text 102 = .ok (.ifCond .eq 20, 3) := by decide +kernel
theorem d_Model_text_105 : decode b_Model_text 105 = .ok (.aload_n 0, 1) := by decide +kernel
theorem d_Model_text_106 : decode b_Model_text 106 = .ok (.invokevirtual 138, 3) := by decide +kernel
theorem d_Model_text_109 : decode b_Model_text 109 = .ok (.aload_n 0, 1) := by decide +kernel
theorem d_Model_text_110 : decode b_Model_text 110 = .ok (.getfield 105, 3) := by decide +kernel
theorem d_Model_text_113 : decode b_Model_text 113 = .ok (.ifCond .ne 7, 3) := by decide +kernel
theorem d_Model_text_116 : decode b_Model_text 116 = .ok (.iconst 1, 1) := by decide +kernel
theorem d_Model_text_117 : decode b_Model_text 117 = .ok (.goto 4, 3) := by decide +kernel
theorem d_Model_text_120 : decode b_Model_text 120 = .ok (.iconst 0, 1) := by decide +kernel
theorem d_Model_text_121 : decode b_Model_text 121 = .ok (.istore_n 1, 1) := by decide +kernel
theorem d_Model_text_122 : decode b_Model_text 122 = .ok (.aload_n 0, 1) := by decide +kernel
theorem d_Model_text_123 : decode b_Model_text 123 = .ok (.getfield 31, 3) := by decide +kernel
theorem d_Model_text_126 : decode b_Model_text 126 = .ok (.iconst 4, 1) := by decide +kernel
theorem d_Model_text_127 : decode b_Model_text 127 = .ok (.aload_n 0, 1) := by decide +kernel
theorem d_Model_text_128 : decode b_Model_text 128 = .ok (.getfield 90, 3) := by decide +kernel
theorem d_Model_text_131 : decode b_Model_text 131 = .ok (.imul, 1) := by decide +kernel
theorem d_Model_text_132 : decode b_Model_text 132 = .ok (.iconst 3, 1) := by decide +kernel
theorem d_Model_text_133 : decode b_Model_text 133 = .ok (.iadd, 1) := by decide +kernel
theorem d_Model_text_134 : decode b_Model_text 134 = .ok (.aload_n 0, 1) := by decide +kernel
theorem d_Model_text_135 : decode b_Model_text 135 = .ok (.getfield 115, 3) := by decide +kernel
theorem d_Model_text_138 : decode b_Model_text 138 = .ok (.iastore, 1) := by decide +kernel
theorem d_Model_text_139 : decode b_Model_text 139 = .ok (.aload_n 0, 1) := by decide +kernel
theorem d_Model_text_140 : decode b_Model_text 140 = .ok (.iconst 0, 1) := by decide +kernel
theorem d_Model_text_141 : decode b_Model_text 141 = .ok (.putfield 67, 3) := by decide +kernel
theorem d_Model_text_144 : decode b_Model_text 144 = .ok (.iload_n 1, 1) := by decide +kernel
theorem d_Model_text_145 : decode b_Model_text 145 = .ok (.ifCond .ne 11, 3) := by decide +kernel
theorem d_Model_text_148 : decode b_Model_text 148 = .ok (.bipush (-100), 2) := by decide +kernel
theorem d_Model_text_150 : decode b_Model_text 150 = .ok (.aload_n 0, 1) := by decide +kernel
theorem d_Model_text_151 : decode b_Model_text 151 = .ok (.getfield 102, 3) := by decide +kernel
theorem d_Model_text_154 : decode b_Model_text 154 = .ok (.isub, 1) := by decide +kernel
theorem d_Model_text_155 : decode b_Model_text 155 = .ok (.ireturn, 1) := by decide +kernel
theorem d_Model_text_156 : decode b_Model_text 156 = .ok (.aload_n 0, 1) := by decide +kernel
theorem d_Model_text_157 : decode b_Model_text 157 = .ok (.dup, 1) := by decide +kernel
theorem d_Model_text_158 : decode b_Model_text 158 = .ok (.getfield 90, 3) := by decide +kernel
theorem d_Model_text_161 : decode b_Model_text 161 = .ok (.iconst 1, 1) := by decide +kernel
theorem d_Model_text_162 : decode b_Model_text 162 = .ok (.iadd, 1) := by decide +kernel
theorem d_Model_text_163 : decode b_Model_text 163 = .ok (.putfield 90, 3) := by decide +kernel
theorem d_Model_text_166 : decode b_Model_text 166 = .ok (.aload_n 0, 1) := by decide +kernel
theorem d_Model_text_167 : decode b_Model_text 167 = .ok (.getfield 90, 3) := by decide +kernel
theorem d_Model_text_170 : decode b_Model_text 170 = .ok (.iconst 1, 1) := by decide +kernel
theorem d_Model_text_171 : decode b_Model_text 171 = .ok (.isub, 1) := by decide +kernel
theorem d_Model_text_172 : decode b_Model_text 172 = .ok (.ireturn, 1) := by decide +kernel
section S_Model_text
variable {p : Program} {l : Launch} {e : Env} {s : State} {m : MethodId} {args : Array Value} {below : List Frame} {meth : Method} {c : Code} {D : va_G} {cA : Nat → ClassId} {ad : Nat → Nat} {nC : Nat} {A : Nat → Prop} {r : Int32} {τ : St}
noncomputable def F_Model_text_122 (s0 : St) (v1 : Int32) : Option (Int32 × St) := (if inB (((4 : Int32) * (s0.1 0 10)) + (3 : Int32)) 24 = true then (lt (up1 s0 8 (((4 : Int32) * (s0.1 0 10)) + (3 : Int32)).toNatClampNeg (s0.1 0 29)) (fun s_7 => (lt (up1 s_7 0 7 (0 : Int32)) (fun s_8 => (if ¬ v1 = 0 then (lt (up1 s_8 0 10 ((s_8.1 0 10) + (1 : Int32))) (fun s_10 => (some (((s_10.1 0 10) - (1 : Int32)), s_10)))) else (some (((-100 : Int32) - (s_8.1 0 22)), s_8))))))) else none)
set_option maxHeartbeats 4000000 in
set_option maxRecDepth 100000 in
theorem q_Model_text_122 (K : Fx p s m args meth c b_Model_text 3 R_Model (some .int))  : ∀ (H : Heap) (locs : List Loc) (ls : Array Slot) (s0 : St) (v1 : Int32), Wh D cA ad shM A s s0 H locs → lv_has ls 3 [(0, .ref (ad 0)), (1, .int v1)] → F_Model_text_122 s0 v1 = (some (r, τ)) → W p l e rm_Model_text s m args below meth c H locs 0 0 (MQ below (QcI D cA ad shM A r τ) args s 0 0 A) (F0 m 122 ls []) := by
  have hx := K.1.1; have hb := K.1.2.1
  intro H locs ls s0 v1 hw hl hF
  unfold F_Model_text_122 at hF
  refine lv_aload_n hx hb d_Model_text_122 rfl (lv_at hl 0 rfl) ?_
  refine r_get (v := .ref (ad 8)) K hw i_Model sh_Model rfl 9 (by decide) w_1034 rfl rfl rfl d_Model_text_123 ?_
  refine lv_iconst (v := 4) hx hb d_Model_text_126 (by decide) ?_
  refine lv_aload_n hx hb d_Model_text_127 rfl (lv_at hl 0 rfl) ?_
  refine r_get (v := .int (s0.1 0 10)) K hw i_Model sh_Model rfl 10 (by decide) w_1035 rfl rfl rfl d_Model_text_128 ?_
  refine lv_imul hx hb d_Model_text_131 ?_
  refine lv_iconst (v := 3) hx hb d_Model_text_132 (by decide) ?_
  refine lv_iadd hx hb d_Model_text_133 ?_
  refine lv_aload_n hx hb d_Model_text_134 rfl (lv_at hl 0 rfl) ?_
  refine r_get (v := .int (s0.1 0 29)) K hw i_Model sh_Model rfl 29 (by decide) w_1054 rfl rfl rfl d_Model_text_135 ?_
  obtain ⟨g_6, hF⟩ := ifG hF
  refine r_iast (k := (((4 : Int32) * (s0.1 0 10)) + (3 : Int32)).toNatClampNeg) K hw (show shM[8]? = some (.inr (.inl 24)) from rfl) rfl (inB_vp g_6) d_Model_text_138 (fun s_7 f_s_7 H locs hw => ?_)
  replace hF := ltN hF f_s_7
  refine lv_aload_n hx hb d_Model_text_139 rfl (lv_at hl 0 rfl) ?_
  refine lv_iconst (v := 0) hx hb d_Model_text_140 (by decide) ?_
  refine r_putI K hw i_Model t_Model t_Model_ok n_Model sh_Model rfl 7 (by decide) w_1032 rfl rfl rfl rfl rfl d_Model_text_141 (fun s_8 f_s_8 H locs hw => ?_)
  replace hF := ltN hF f_s_8
  refine lv_iload_n hx hb d_Model_text_144 rfl (lv_at hl 1 rfl) ?_
  refine lv_if_ne (tgt := 156) hx hb d_Model_text_145 (by decide) (fun c_9 => ?_) (fun c_9 => ?_)
  · replace hF := ifT hF c_9
    refine lv_aload_n hx hb d_Model_text_156 rfl (lv_at hl 0 rfl) ?_
    refine lv_dup hx hb d_Model_text_157 rfl ?_
    refine r_get (v := .int (s_8.1 0 10)) K hw i_Model sh_Model rfl 10 (by decide) w_1035 rfl rfl rfl d_Model_text_158 ?_
    refine lv_iconst (v := 1) hx hb d_Model_text_161 (by decide) ?_
    refine lv_iadd hx hb d_Model_text_162 ?_
    refine r_putI K hw i_Model t_Model t_Model_ok n_Model sh_Model rfl 10 (by decide) w_1035 rfl rfl rfl rfl rfl d_Model_text_163 (fun s_10 f_s_10 H locs hw => ?_)
    replace hF := ltN hF f_s_10
    refine lv_aload_n hx hb d_Model_text_166 rfl (lv_at hl 0 rfl) ?_
    refine r_get (v := .int (s_10.1 0 10)) K hw i_Model sh_Model rfl 10 (by decide) w_1035 rfl rfl rfl d_Model_text_167 ?_
    refine lv_iconst (v := 1) hx hb d_Model_text_170 (by decide) ?_
    refine lv_isub hx hb d_Model_text_171 ?_
    obtain ⟨hF, hG⟩ := sE2 hF
    subst hF
    subst hG
    exact r_iret K hw d_Model_text_172
  · replace hF := ifN hF c_9
    refine lv_bipush (v := -100) hx hb d_Model_text_148 (by decide) ?_
    refine lv_aload_n hx hb d_Model_text_150 rfl (lv_at hl 0 rfl) ?_
    refine r_get (v := .int (s_8.1 0 22)) K hw i_Model sh_Model rfl 22 (by decide) w_1047 rfl rfl rfl d_Model_text_151 ?_
    refine lv_isub hx hb d_Model_text_154 ?_
    obtain ⟨hF, hG⟩ := sE2 hF
    subst hF
    subst hG
    exact r_iret K hw d_Model_text_155
noncomputable def F_Model_text_121 (s0 : St) (t0 : Int32) : Option (Int32 × St) := (F_Model_text_122 s0 t0)
set_option maxHeartbeats 4000000 in
set_option maxRecDepth 100000 in
theorem q_Model_text_121 (K : Fx p s m args meth c b_Model_text 3 R_Model (some .int))  : ∀ (H : Heap) (locs : List Loc) (ls : Array Slot) (s0 : St) (t0 : Int32), Wh D cA ad shM A s s0 H locs → lv_has ls 3 [(0, .ref (ad 0))] → F_Model_text_121 s0 t0 = (some (r, τ)) → W p l e rm_Model_text s m args below meth c H locs 0 0 (MQ below (QcI D cA ad shM A r τ) args s 0 0 A) (F0 m 121 ls [.int t0]) := by
  have hx := K.1.1; have hb := K.1.2.1
  intro H locs ls s0 t0 hw hl hF
  unfold F_Model_text_121 at hF
  refine lv_istore_n (lv' := [(1, .int t0), (0, .ref (ad 0))]) hx hb d_Model_text_121 rfl hl (by decide) rfl (fun ls hl => ?_)
  exact q_Model_text_122 K _ _ _ _ _  hw (lv_sub hl [1, 0] rfl) hF
noncomputable def F_Model_text_101 (s0 : St) (v1 : Int32) : Option (Int32 × St) := (if v1 = 0 then (F_Model_text_122 s0 v1) else (ob1 (F_Model_next s0 ) (fun s_11 => (if ¬ (s_11.1 0 23) = 0 then (F_Model_text_121 s_11 (0 : Int32)) else (F_Model_text_121 s_11 (1 : Int32))))))
set_option maxHeartbeats 4000000 in
set_option maxRecDepth 100000 in
theorem q_Model_text_101 (K : Fx p s m args meth c b_Model_text 3 R_Model (some .int))  : ∀ (H : Heap) (locs : List Loc) (ls : Array Slot) (s0 : St) (v1 : Int32), Wh D cA ad shM A s s0 H locs → lv_has ls 3 [(0, .ref (ad 0)), (1, .int v1)] → F_Model_text_101 s0 v1 = (some (r, τ)) → W p l e rm_Model_text s m args below meth c H locs 0 0 (MQ below (QcI D cA ad shM A r τ) args s 0 0 A) (F0 m 101 ls []) := by
  have hx := K.1.1; have hb := K.1.2.1
  intro H locs ls s0 v1 hw hl hF
  unfold F_Model_text_101 at hF
  refine lv_iload_n hx hb d_Model_text_101 rfl (lv_at hl 1 rfl) ?_
  refine lv_if_eq (tgt := 122) hx hb d_Model_text_102 (by decide) (fun c_5 => ?_) (fun c_5 => ?_)
  · replace hF := ifT hF c_5
    exact q_Model_text_122 K _ _ _ _ _  hw (lv_sub hl [0, 1] rfl) hF
  · replace hF := ifF hF c_5
    refine lv_aload_n hx hb d_Model_text_105 rfl (lv_at hl 0 rfl) ?_
    obtain ⟨s_11, h_s_11, hF⟩ := ob1E hF
    refine r_callVV (As := []) (rest := []) K hw hl.1 (c_Model_next (l := l) (D := D) (cA := cA) (ad := ad) (s0 := s0)   h_s_11) sh_Model rfl (tb_gV w_982 w_984 w_30 w_80 w_985) a_Model_next ⟨rfl, rfl, Nat.le_of_ble_eq_true rfl, Nat.le_of_ble_eq_true rfl⟩ rfl rfl (Nat.le_of_ble_eq_true rfl) d_Model_text_106 (fun H locs hw => ?_)
    refine lv_aload_n hx hb d_Model_text_109 rfl (lv_at hl 0 rfl) ?_
    refine r_get (v := .int (s_11.1 0 23)) K hw i_Model sh_Model rfl 23 (by decide) w_1048 rfl rfl rfl d_Model_text_110 ?_
    refine lv_if_ne (tgt := 120) hx hb d_Model_text_113 (by decide) (fun c_12 => ?_) (fun c_12 => ?_)
    · replace hF := ifT hF c_12
      refine lv_iconst (v := 0) hx hb d_Model_text_120 (by decide) ?_
      exact q_Model_text_121 K _ _ _ _ _  hw (lv_sub hl [0] rfl) hF
    · replace hF := ifN hF c_12
      refine lv_iconst (v := 1) hx hb d_Model_text_116 (by decide) ?_
      refine lv_goto (tgt := 121) hx hb d_Model_text_117 (by decide) ?_
      exact q_Model_text_121 K _ _ _ _ _  hw (lv_sub hl [0] rfl) hF
noncomputable def F_Model_text_94 (k16 : (St → Int32 → Int32 → Option (Int32 × St))) (s0 : St) (v2 : Int32) (t0 : Int32) : Option (Int32 × St) := (k16 s0 t0 (v2 + 1))
set_option maxHeartbeats 4000000 in
set_option maxRecDepth 100000 in
theorem q_Model_text_94 (K : Fx p s m args meth c b_Model_text 3 R_Model (some .int)) (k16 : (St → Int32 → Int32 → Option (Int32 × St))) (hk16 : ∀ (H : Heap) (locs : List Loc) (ls : Array Slot) (s0 : St) (v1 : Int32) (v2 : Int32), Wh D cA ad shM A s s0 H locs → lv_has ls 3 [(0, .ref (ad 0)), (1, .int v1), (2, .int v2)] → k16 s0 v1 v2 = (some (r, τ)) → W p l e rm_Model_text s m args below meth c H locs 0 0 (MQ below (QcI D cA ad shM A r τ) args s 0 0 A) (F0 m 26 ls [])) : ∀ (H : Heap) (locs : List Loc) (ls : Array Slot) (s0 : St) (v2 : Int32) (t0 : Int32), Wh D cA ad shM A s s0 H locs → lv_has ls 3 [(0, .ref (ad 0)), (2, .int v2)] → F_Model_text_94 k16 s0 v2 t0 = (some (r, τ)) → W p l e rm_Model_text s m args below meth c H locs 0 0 (MQ below (QcI D cA ad shM A r τ) args s 0 0 A) (F0 m 94 ls [.int t0]) := by
  have hx := K.1.1; have hb := K.1.2.1
  intro H locs ls s0 v2 t0 hw hl hF
  unfold F_Model_text_94 at hF
  refine lv_istore_n (lv' := [(1, .int t0), (0, .ref (ad 0)), (2, .int v2)]) hx hb d_Model_text_94 rfl hl (by decide) rfl (fun ls hl => ?_)
  refine lv_iinc (v := (v2 + 1)) (lv' := [(2, .int (v2 + 1)), (1, .int t0), (0, .ref (ad 0))]) hx hb d_Model_text_95 hl (k := 2) rfl rfl (by decide) rfl (fun ls hl => ?_)
  refine lv_goto (tgt := 26) hx hb d_Model_text_98 (by decide) ?_
  exact hk16 _ _ _ _ _ _  hw (lv_sub hl [2, 1, 0] rfl) hF
noncomputable def F_Model_text_93 (k16 : (St → Int32 → Int32 → Option (Int32 × St))) (s0 : St) (v2 : Int32) : Option (Int32 × St) := (F_Model_text_94 k16 s0 v2 (0 : Int32))
set_option maxHeartbeats 4000000 in
set_option maxRecDepth 100000 in
theorem q_Model_text_93 (K : Fx p s m args meth c b_Model_text 3 R_Model (some .int)) (k16 : (St → Int32 → Int32 → Option (Int32 × St))) (hk16 : ∀ (H : Heap) (locs : List Loc) (ls : Array Slot) (s0 : St) (v1 : Int32) (v2 : Int32), Wh D cA ad shM A s s0 H locs → lv_has ls 3 [(0, .ref (ad 0)), (1, .int v1), (2, .int v2)] → k16 s0 v1 v2 = (some (r, τ)) → W p l e rm_Model_text s m args below meth c H locs 0 0 (MQ below (QcI D cA ad shM A r τ) args s 0 0 A) (F0 m 26 ls [])) : ∀ (H : Heap) (locs : List Loc) (ls : Array Slot) (s0 : St) (v2 : Int32), Wh D cA ad shM A s s0 H locs → lv_has ls 3 [(0, .ref (ad 0)), (2, .int v2)] → F_Model_text_93 k16 s0 v2 = (some (r, τ)) → W p l e rm_Model_text s m args below meth c H locs 0 0 (MQ below (QcI D cA ad shM A r τ) args s 0 0 A) (F0 m 93 ls []) := by
  have hx := K.1.1; have hb := K.1.2.1
  intro H locs ls s0 v2 hw hl hF
  unfold F_Model_text_93 at hF
  refine lv_iconst (v := 0) hx hb d_Model_text_93 (by decide) ?_
  exact q_Model_text_94 K k16 hk16 _ _ _ _ _ _  hw (lv_sub hl [0, 1] rfl) hF
noncomputable def F_Model_text_60 (k16 : (St → Int32 → Int32 → Option (Int32 × St))) (s0 : St) (v2 : Int32) (t0 : Int32) : Option (Int32 × St) := (if inB (((4 : Int32) * (s0.1 0 10)) + v2) 24 = true then (lt (up1 s0 8 (((4 : Int32) * (s0.1 0 10)) + v2).toNatClampNeg (s0.1 0 29)) (fun s_17 => (if t0 = 0 then (F_Model_text_93 k16 s_17 v2) else (ob2 (F_Model_eRead s_17 ) (fun r_19 s_20 => (if r_19 = 0 then (F_Model_text_93 k16 s_20 v2) else (F_Model_text_94 k16 s_20 v2 (1 : Int32)))))))) else none)
set_option maxHeartbeats 4000000 in
set_option maxRecDepth 100000 in
theorem q_Model_text_60 (K : Fx p s m args meth c b_Model_text 3 R_Model (some .int)) (k16 : (St → Int32 → Int32 → Option (Int32 × St))) (hk16 : ∀ (H : Heap) (locs : List Loc) (ls : Array Slot) (s0 : St) (v1 : Int32) (v2 : Int32), Wh D cA ad shM A s s0 H locs → lv_has ls 3 [(0, .ref (ad 0)), (1, .int v1), (2, .int v2)] → k16 s0 v1 v2 = (some (r, τ)) → W p l e rm_Model_text s m args below meth c H locs 0 0 (MQ below (QcI D cA ad shM A r τ) args s 0 0 A) (F0 m 26 ls [])) : ∀ (H : Heap) (locs : List Loc) (ls : Array Slot) (s0 : St) (v2 : Int32) (t0 : Int32), Wh D cA ad shM A s s0 H locs → lv_has ls 3 [(0, .ref (ad 0)), (2, .int v2)] → F_Model_text_60 k16 s0 v2 t0 = (some (r, τ)) → W p l e rm_Model_text s m args below meth c H locs 0 0 (MQ below (QcI D cA ad shM A r τ) args s 0 0 A) (F0 m 60 ls [.int t0]) := by
  have hx := K.1.1; have hb := K.1.2.1
  intro H locs ls s0 v2 t0 hw hl hF
  unfold F_Model_text_60 at hF
  refine lv_istore_n (lv' := [(1, .int t0), (0, .ref (ad 0)), (2, .int v2)]) hx hb d_Model_text_60 rfl hl (by decide) rfl (fun ls hl => ?_)
  refine lv_aload_n hx hb d_Model_text_61 rfl (lv_at hl 1 rfl) ?_
  refine r_get (v := .ref (ad 8)) K hw i_Model sh_Model rfl 9 (by decide) w_1034 rfl rfl rfl d_Model_text_62 ?_
  refine lv_iconst (v := 4) hx hb d_Model_text_65 (by decide) ?_
  refine lv_aload_n hx hb d_Model_text_66 rfl (lv_at hl 1 rfl) ?_
  refine r_get (v := .int (s0.1 0 10)) K hw i_Model sh_Model rfl 10 (by decide) w_1035 rfl rfl rfl d_Model_text_67 ?_
  refine lv_imul hx hb d_Model_text_70 ?_
  refine lv_iload_n hx hb d_Model_text_71 rfl (lv_at hl 2 rfl) ?_
  refine lv_iadd hx hb d_Model_text_72 ?_
  refine lv_aload_n hx hb d_Model_text_73 rfl (lv_at hl 1 rfl) ?_
  refine r_get (v := .int (s0.1 0 29)) K hw i_Model sh_Model rfl 29 (by decide) w_1054 rfl rfl rfl d_Model_text_74 ?_
  obtain ⟨g_16, hF⟩ := ifG hF
  refine r_iast (k := (((4 : Int32) * (s0.1 0 10)) + v2).toNatClampNeg) K hw (show shM[8]? = some (.inr (.inl 24)) from rfl) rfl (inB_vp g_16) d_Model_text_77 (fun s_17 f_s_17 H locs hw => ?_)
  replace hF := ltN hF f_s_17
  refine lv_iload_n hx hb d_Model_text_78 rfl (lv_at hl 0 rfl) ?_
  refine lv_if_eq (tgt := 93) hx hb d_Model_text_79 (by decide) (fun c_18 => ?_) (fun c_18 => ?_)
  · replace hF := ifT hF c_18
    exact q_Model_text_93 K k16 hk16 _ _ _ _ _  hw (lv_sub hl [1, 2] rfl) hF
  · replace hF := ifF hF c_18
    refine lv_aload_n hx hb d_Model_text_82 rfl (lv_at hl 1 rfl) ?_
    obtain ⟨r_19, s_20, h_s_20, hF⟩ := ob2E hF
    refine r_callVI (As := []) (rest := []) K hw hl.1 (c_Model_eRead (l := l) (D := D) (cA := cA) (ad := ad) (s0 := s_17)   h_s_20) sh_Model rfl (tb_gV w_993 w_995 w_32 w_80 w_996) a_Model_eRead ⟨rfl, rfl, Nat.le_of_ble_eq_true rfl, Nat.le_of_ble_eq_true rfl⟩ rfl rfl (Nat.le_of_ble_eq_true rfl) d_Model_text_83 (fun H locs hw => ?_)
    refine lv_if_eq (tgt := 93) hx hb d_Model_text_86 (by decide) (fun c_21 => ?_) (fun c_21 => ?_)
    · replace hF := ifT hF c_21
      exact q_Model_text_93 K k16 hk16 _ _ _ _ _  hw (lv_sub hl [1, 2] rfl) hF
    · replace hF := ifF hF c_21
      refine lv_iconst (v := 1) hx hb d_Model_text_89 (by decide) ?_
      refine lv_goto (tgt := 94) hx hb d_Model_text_90 (by decide) ?_
      exact q_Model_text_94 K k16 hk16 _ _ _ _ _ _  hw (lv_sub hl [1, 2] rfl) hF
noncomputable def F_Model_text_59 (k16 : (St → Int32 → Int32 → Option (Int32 × St))) (s0 : St) (v2 : Int32) : Option (Int32 × St) := (F_Model_text_60 k16 s0 v2 (0 : Int32))
set_option maxHeartbeats 4000000 in
set_option maxRecDepth 100000 in
theorem q_Model_text_59 (K : Fx p s m args meth c b_Model_text 3 R_Model (some .int)) (k16 : (St → Int32 → Int32 → Option (Int32 × St))) (hk16 : ∀ (H : Heap) (locs : List Loc) (ls : Array Slot) (s0 : St) (v1 : Int32) (v2 : Int32), Wh D cA ad shM A s s0 H locs → lv_has ls 3 [(0, .ref (ad 0)), (1, .int v1), (2, .int v2)] → k16 s0 v1 v2 = (some (r, τ)) → W p l e rm_Model_text s m args below meth c H locs 0 0 (MQ below (QcI D cA ad shM A r τ) args s 0 0 A) (F0 m 26 ls [])) : ∀ (H : Heap) (locs : List Loc) (ls : Array Slot) (s0 : St) (v2 : Int32), Wh D cA ad shM A s s0 H locs → lv_has ls 3 [(0, .ref (ad 0)), (2, .int v2)] → F_Model_text_59 k16 s0 v2 = (some (r, τ)) → W p l e rm_Model_text s m args below meth c H locs 0 0 (MQ below (QcI D cA ad shM A r τ) args s 0 0 A) (F0 m 59 ls []) := by
  have hx := K.1.1; have hb := K.1.2.1
  intro H locs ls s0 v2 hw hl hF
  unfold F_Model_text_59 at hF
  refine lv_iconst (v := 0) hx hb d_Model_text_59 (by decide) ?_
  exact q_Model_text_60 K k16 hk16 _ _ _ _ _ _  hw (lv_sub hl [0, 1] rfl) hF
noncomputable def F_Model_text_26 : Nat → St → Int32 → Int32 → Option (Int32 × St)
  | 0, _, _, _ => none
  | n + 1, s0, v1, v2 => (if (3 : Int32) ≤ v2 then (F_Model_text_101 s0 v1) else (if v1 = 0 then (F_Model_text_101 s0 v1) else (ob1 (F_Model_next s0 ) (fun s_14 => (if ¬ (s_14.1 0 23) = (3 : Int32) then (F_Model_text_59 (fun z0 zv1 zv2 => F_Model_text_26 n z0 zv1 zv2) s_14 v2) else (if ¬ (s_14.1 0 24) = v2 then (F_Model_text_59 (fun z0 zv1 zv2 => F_Model_text_26 n z0 zv1 zv2) s_14 v2) else (F_Model_text_60 (fun z0 zv1 zv2 => F_Model_text_26 n z0 zv1 zv2) s_14 v2 (1 : Int32))))))))
set_option maxHeartbeats 4000000 in
set_option maxRecDepth 100000 in
theorem q_Model_text_26 (K : Fx p s m args meth c b_Model_text 3 R_Model (some .int))  : ∀ (n : Nat), ∀ (H : Heap) (locs : List Loc) (ls : Array Slot) (s0 : St) (v1 : Int32) (v2 : Int32), Wh D cA ad shM A s s0 H locs → lv_has ls 3 [(0, .ref (ad 0)), (1, .int v1), (2, .int v2)] → F_Model_text_26 n s0 v1 v2 = (some (r, τ)) → W p l e rm_Model_text s m args below meth c H locs 0 0 (MQ below (QcI D cA ad shM A r τ) args s 0 0 A) (F0 m 26 ls []) := by
  have hx := K.1.1; have hb := K.1.2.1
  intro n
  induction n with
  | zero =>
    intro H locs ls s0 v1 v2 hw hl hF
    exact absurd hF (by rw [F_Model_text_26]; exact nofun)
  | succ n ih =>
    intro H locs ls s0 v1 v2 hw hl hF
    rw [F_Model_text_26] at hF
    refine lv_iload_n hx hb d_Model_text_26 rfl (lv_at hl 2 rfl) ?_
    refine lv_iconst (v := 3) hx hb d_Model_text_27 (by decide) ?_
    refine lv_icmp_ge (tgt := 101) hx hb d_Model_text_28 (by decide) (fun c_4 => ?_) (fun c_4 => ?_)
    · replace hF := ifT hF c_4
      exact q_Model_text_101 K _ _ _ _ _  hw (lv_sub hl [0, 1] rfl) hF
    · replace hF := ifF hF c_4
      refine lv_iload_n hx hb d_Model_text_31 rfl (lv_at hl 1 rfl) ?_
      refine lv_if_eq (tgt := 101) hx hb d_Model_text_32 (by decide) (fun c_13 => ?_) (fun c_13 => ?_)
      · replace hF := ifT hF c_13
        exact q_Model_text_101 K _ _ _ _ _  hw (lv_sub hl [0, 1] rfl) hF
      · replace hF := ifF hF c_13
        refine lv_aload_n hx hb d_Model_text_35 rfl (lv_at hl 0 rfl) ?_
        obtain ⟨s_14, h_s_14, hF⟩ := ob1E hF
        refine r_callVV (As := []) (rest := []) K hw hl.1 (c_Model_next (l := l) (D := D) (cA := cA) (ad := ad) (s0 := s0)   h_s_14) sh_Model rfl (tb_gV w_982 w_984 w_30 w_80 w_985) a_Model_next ⟨rfl, rfl, Nat.le_of_ble_eq_true rfl, Nat.le_of_ble_eq_true rfl⟩ rfl rfl (Nat.le_of_ble_eq_true rfl) d_Model_text_36 (fun H locs hw => ?_)
        refine lv_aload_n hx hb d_Model_text_39 rfl (lv_at hl 0 rfl) ?_
        refine r_get (v := .int (s_14.1 0 23)) K hw i_Model sh_Model rfl 23 (by decide) w_1048 rfl rfl rfl d_Model_text_40 ?_
        refine lv_iconst (v := 3) hx hb d_Model_text_43 (by decide) ?_
        refine lv_icmp_ne (tgt := 59) hx hb d_Model_text_44 (by decide) (fun c_15 => ?_) (fun c_15 => ?_)
        · replace hF := ifT hF c_15
          exact q_Model_text_59 K (fun z0 zv1 zv2 => F_Model_text_26 n z0 zv1 zv2) ih _ _ _ _ _  hw (lv_sub hl [0, 2] rfl) hF
        · replace hF := ifN hF c_15
          refine lv_aload_n hx hb d_Model_text_47 rfl (lv_at hl 0 rfl) ?_
          refine r_get (v := .int (s_14.1 0 24)) K hw i_Model sh_Model rfl 24 (by decide) w_1049 rfl rfl rfl d_Model_text_48 ?_
          refine lv_iload_n hx hb d_Model_text_51 rfl (lv_at hl 2 rfl) ?_
          refine lv_icmp_ne (tgt := 59) hx hb d_Model_text_52 (by decide) (fun c_22 => ?_) (fun c_22 => ?_)
          · replace hF := ifT hF c_22
            exact q_Model_text_59 K (fun z0 zv1 zv2 => F_Model_text_26 n z0 zv1 zv2) ih _ _ _ _ _  hw (lv_sub hl [0, 2] rfl) hF
          · replace hF := ifN hF c_22
            refine lv_iconst (v := 1) hx hb d_Model_text_55 (by decide) ?_
            refine lv_goto (tgt := 60) hx hb d_Model_text_56 (by decide) ?_
            exact q_Model_text_60 K (fun z0 zv1 zv2 => F_Model_text_26 n z0 zv1 zv2) ih _ _ _ _ _ _  hw (lv_sub hl [0, 2] rfl) hF
noncomputable def F_Model_text_0 (s0 : St) : Option (Int32 × St) := (if ¬ (s0.1 0 10) = (6 : Int32) then (lt (up1 s0 0 21 (0 : Int32)) (fun s_2 => (lt (up1 s_2 0 29 (0 : Int32)) (fun s_3 => (F_Model_text_26 FU s_3 (1 : Int32) (0 : Int32)))))) else (some ((-4 : Int32), s0)))
set_option maxHeartbeats 4000000 in
set_option maxRecDepth 100000 in
theorem q_Model_text_0 (K : Fx p s m args meth c b_Model_text 3 R_Model (some .int))  : ∀ (H : Heap) (locs : List Loc) (ls : Array Slot) (s0 : St), Wh D cA ad shM A s s0 H locs → lv_has ls 3 [(0, .ref (ad 0))] → F_Model_text_0 s0 = (some (r, τ)) → W p l e rm_Model_text s m args below meth c H locs 0 0 (MQ below (QcI D cA ad shM A r τ) args s 0 0 A) (F0 m 0 ls []) := by
  have hx := K.1.1; have hb := K.1.2.1
  intro H locs ls s0 hw hl hF
  unfold F_Model_text_0 at hF
  refine lv_aload_n hx hb d_Model_text_0 rfl (lv_at hl 0 rfl) ?_
  refine r_get (v := .int (s0.1 0 10)) K hw i_Model sh_Model rfl 10 (by decide) w_1035 rfl rfl rfl d_Model_text_1 ?_
  refine lv_bipush (v := 6) hx hb d_Model_text_4 (by decide) ?_
  refine lv_icmp_ne (tgt := 12) hx hb d_Model_text_6 (by decide) (fun c_1 => ?_) (fun c_1 => ?_)
  · replace hF := ifT hF c_1
    refine lv_aload_n hx hb d_Model_text_12 rfl (lv_at hl 0 rfl) ?_
    refine lv_iconst (v := 0) hx hb d_Model_text_13 (by decide) ?_
    refine r_putI K hw i_Model t_Model t_Model_ok n_Model sh_Model rfl 21 (by decide) w_1046 rfl rfl rfl rfl rfl d_Model_text_14 (fun s_2 f_s_2 H locs hw => ?_)
    replace hF := ltN hF f_s_2
    refine lv_aload_n hx hb d_Model_text_17 rfl (lv_at hl 0 rfl) ?_
    refine lv_iconst (v := 0) hx hb d_Model_text_18 (by decide) ?_
    refine r_putI K hw i_Model t_Model t_Model_ok n_Model sh_Model rfl 29 (by decide) w_1054 rfl rfl rfl rfl rfl d_Model_text_19 (fun s_3 f_s_3 H locs hw => ?_)
    replace hF := ltN hF f_s_3
    refine lv_iconst (v := 1) hx hb d_Model_text_22 (by decide) ?_
    refine lv_istore_n (lv' := [(1, .int (1 : Int32)), (0, .ref (ad 0))]) hx hb d_Model_text_23 rfl hl (by decide) rfl (fun ls hl => ?_)
    refine lv_iconst (v := 0) hx hb d_Model_text_24 (by decide) ?_
    refine lv_istore_n (lv' := [(2, .int (0 : Int32)), (1, .int (1 : Int32)), (0, .ref (ad 0))]) hx hb d_Model_text_25 rfl hl (by decide) rfl (fun ls hl => ?_)
    exact q_Model_text_26 K FU _ _ _ _ _ _  hw (lv_sub hl [2, 1, 0] rfl) hF
  · replace hF := ifN hF c_1
    refine lv_bipush (v := -4) hx hb d_Model_text_9 (by decide) ?_
    obtain ⟨hF, hG⟩ := sE2 hF
    subst hF
    subst hG
    exact r_iret K hw d_Model_text_11
end S_Model_text
noncomputable abbrev F_Model_text := F_Model_text_0
theorem c_Model_text {l : Launch} {D : va_G} {cA : Nat → ClassId} {ad : Nat → Nat} {s0 τ : St} {r : Int32}   (hF : F_Model_text s0 = (some (r, τ))) : MI l D cA ad shM y_Model_text (wT y_Model_text b_Model_text 3 (some .int)) rm_Model_text [.ref (ad 0)] s0 r τ := fun sz => m_start (Qc := fun A => QcI D cA ad shM A r τ) (by decide +kernel) w_981 (Nat.le_of_ble_eq_true rfl) (fun p e s m below meth c ls K hl hw => q_Model_text_0 K _ _ _ _   hw hl hF)

/-! Model.two(III)I -/
abbrev b_Model_two : ByteArray := prog_13_method_22_code
def y_Model_two : MethodName := ⟨R_Model, "two", "(III)I"⟩
theorem a_Model_two : y_Model_two.cls = R_Model ∧ y_Model_two.cls ≠ "java/lang/invoke/MethodHandle" ∧ y_Model_two.cls ≠ "java/lang/invoke/VarHandle" ∧ (parseMethodDescriptor y_Model_two.desc).map (fun d => d.parameters.length) = some 3 := by decide +kernel
abbrev rm_Model_two : Room := { frames := 0, cells := 0, slots := 0, locals := 0 }
theorem w_1195 : Cond.code y_Model_two b_Model_two 3 (some .int) ∈ TB := tb_in 1195 (by decide +kernel) (by decide +kernel)
theorem d_Model_two_0 : decode b_Model_two 0 = .ok (.iload_n 0, 1) := by decide +kernel
theorem d_Model_two_1 : decode b_Model_two 1 = .ok (.tableswitch 101 11 17 #[43, 57, 101, 71, 82, 93, 97], 43) := by decide +kernel
theorem d_Model_two_44 : decode b_Model_two 44 = .ok (.iload_n 1, 1) := by decide +kernel
theorem d_Model_two_45 : decode b_Model_two 45 = .ok (.ifCond .ne 7, 3) := by decide +kernel
theorem d_Model_two_48 : decode b_Model_two 48 = .ok (.iload_n 2, 1) := by decide +kernel
theorem d_Model_two_49 : decode b_Model_two 49 = .ok (.ifCond .eq 7, 3) := by decide +kernel
theorem d_Model_two_52 : decode b_Model_two 52 = .ok (.iconst 1, 1) := by decide +kernel
theorem d_Model_two_53 : decode b_Model_two 53 = .ok (.goto 4, 3) := by decide +kernel
theorem d_Model_two_56 : decode b_Model_two 56 = .ok (.iconst 0, 1) := by decide +kernel
theorem d_Model_two_57 : decode b_Model_two 57 = .ok (.ireturn, 1) := by decide +kernel
theorem d_Model_two_58 : decode b_Model_two 58 = .ok (.iload_n 1, 1) := by decide +kernel
theorem d_Model_two_59 : decode b_Model_two 59 = .ok (.ifCond .eq 11, 3) := by decide +kernel
theorem d_Model_two_62 : decode b_Model_two 62 = .ok (.iload_n 2, 1) := by decide +kernel
theorem d_Model_two_63 : decode b_Model_two 63 = .ok (.ifCond .eq 7, 3) := by decide +kernel
theorem d_Model_two_66 : decode b_Model_two 66 = .ok (.iconst 1, 1) := by decide +kernel
theorem d_Model_two_67 : decode b_Model_two 67 = .ok (.goto 4, 3) := by decide +kernel
theorem d_Model_two_70 : decode b_Model_two 70 = .ok (.iconst 0, 1) := by decide +kernel
theorem d_Model_two_71 : decode b_Model_two 71 = .ok (.ireturn, 1) := by decide +kernel
theorem d_Model_two_72 : decode b_Model_two 72 = .ok (.iload_n 1, 1) := by decide +kernel
theorem d_Model_two_73 : decode b_Model_two 73 = .ok (.iload_n 2, 1) := by decide +kernel
theorem d_Model_two_74 : decode b_Model_two 74 = .ok (.if_icmp .ge 7, 3) := by decide +kernel
theorem d_Model_two_77 : decode b_Model_two 77 = .ok (.iconst 1, 1) := by decide +kernel
theorem d_Model_two_78 : decode b_Model_two 78 = .ok (.goto 4, 3) := by decide +kernel
theorem d_Model_two_81 : decode b_Model_two 81 = .ok (.iconst 0, 1) := by decide +kernel
theorem d_Model_two_82 : decode b_Model_two 82 = .ok (.ireturn, 1) := by decide +kernel
theorem d_Model_two_83 : decode b_Model_two 83 = .ok (.iload_n 1, 1) := by decide +kernel
theorem d_Model_two_84 : decode b_Model_two 84 = .ok (.iload_n 2, 1) := by decide +kernel
theorem d_Model_two_85 : decode b_Model_two 85 = .ok (.if_icmp .ne 7, 3) := by decide +kernel
theorem d_Model_two_88 : decode b_Model_two 88 = .ok (.iconst 1, 1) := by decide +kernel
theorem d_Model_two_89 : decode b_Model_two 89 = .ok (.goto 4, 3) := by decide +kernel
theorem d_Model_two_92 : decode b_Model_two 92 = .ok (.iconst 0, 1) := by decide +kernel
theorem d_Model_two_93 : decode b_Model_two 93 = .ok (.ireturn, 1) := by decide +kernel
theorem d_Model_two_94 : decode b_Model_two 94 = .ok (.iload_n 1, 1) := by decide +kernel
theorem d_Model_two_95 : decode b_Model_two 95 = .ok (.iload_n 2, 1) := by decide +kernel
theorem d_Model_two_96 : decode b_Model_two 96 = .ok (.iadd, 1) := by decide +kernel
theorem d_Model_two_97 : decode b_Model_two 97 = .ok (.ireturn, 1) := by decide +kernel
theorem d_Model_two_98 : decode b_Model_two 98 = .ok (.iload_n 1, 1) := by decide +kernel
theorem d_Model_two_99 : decode b_Model_two 99 = .ok (.iload_n 2, 1) := by decide +kernel
theorem d_Model_two_100 : decode b_Model_two 100 = .ok (.isub, 1) := by decide +kernel
theorem d_Model_two_101 : decode b_Model_two 101 = .ok (.ireturn, 1) := by decide +kernel
theorem d_Model_two_102 : decode b_Model_two 102 = .ok (.iload_n 1, 1) := by decide +kernel
theorem d_Model_two_103 : decode b_Model_two 103 = .ok (.iload_n 2, 1) := by decide +kernel
theorem d_Model_two_104 : decode b_Model_two 104 = .ok (.imul, 1) := by decide +kernel
theorem d_Model_two_105 : decode b_Model_two 105 = .ok (.ireturn, 1) := by decide +kernel
section S_Model_two
variable {p : Program} {l : Launch} {e : Env} {s : State} {m : MethodId} {args : Array Value} {below : List Frame} {meth : Method} {c : Code} {D : va_G} {cA : Nat → ClassId} {ad : Nat → Nat} {nC : Nat} {A : Nat → Prop} {r : Int32} {τ : St}
noncomputable def F_Model_two_102 (v1 : Int32) (v2 : Int32) : Int32 := (v1 * v2)
set_option maxHeartbeats 4000000 in
set_option maxRecDepth 100000 in
theorem q_Model_two_102 (s0 : St) (K : Fx p s m args meth c b_Model_two 3 R_Model (some .int))  : ∀ (H : Heap) (locs : List Loc) (ls : Array Slot) (v1 : Int32) (v2 : Int32), Wh D cA ad shM A s s0 H locs → lv_has ls 3 [(1, .int v1), (2, .int v2)] → F_Model_two_102 v1 v2 = r → W p l e rm_Model_two s m args below meth c H locs 0 0 (MQ below (QcI D cA ad shM A r s0) args s 0 0 A) (F0 m 102 ls []) := by
  have hx := K.1.1; have hb := K.1.2.1
  intro H locs ls v1 v2 hw hl hF
  unfold F_Model_two_102 at hF
  refine lv_iload_n hx hb d_Model_two_102 rfl (lv_at hl 0 rfl) ?_
  refine lv_iload_n hx hb d_Model_two_103 rfl (lv_at hl 1 rfl) ?_
  refine lv_imul hx hb d_Model_two_104 ?_
  subst hF
  exact r_iret K hw d_Model_two_105
noncomputable def F_Model_two_0 (v0 : Int32) (v1 : Int32) (v2 : Int32) : Int32 := (if v0 = 11 then (if ¬ v1 = 0 then (1 : Int32) else (if v2 = 0 then (0 : Int32) else (1 : Int32))) else (if v0 = 12 then (if v1 = 0 then (0 : Int32) else (if v2 = 0 then (0 : Int32) else (1 : Int32))) else (if v0 = 13 then (F_Model_two_102 v1 v2) else (if v0 = 14 then (if v2 ≤ v1 then (0 : Int32) else (1 : Int32)) else (if v0 = 15 then (if ¬ v1 = v2 then (0 : Int32) else (1 : Int32)) else (if v0 = 16 then (v1 + v2) else (if v0 = 17 then (v1 - v2) else (F_Model_two_102 v1 v2))))))))
set_option maxHeartbeats 4000000 in
set_option maxRecDepth 100000 in
theorem q_Model_two_0 (s0 : St) (K : Fx p s m args meth c b_Model_two 3 R_Model (some .int))  : ∀ (H : Heap) (locs : List Loc) (ls : Array Slot) (v0 : Int32) (v1 : Int32) (v2 : Int32), Wh D cA ad shM A s s0 H locs → lv_has ls 3 [(0, .int v0), (1, .int v1), (2, .int v2)] → F_Model_two_0 v0 v1 v2 = r → W p l e rm_Model_two s m args below meth c H locs 0 0 (MQ below (QcI D cA ad shM A r s0) args s 0 0 A) (F0 m 0 ls []) := by
  have hx := K.1.1; have hb := K.1.2.1
  intro H locs ls v0 v1 v2 hw hl hF
  unfold F_Model_two_0 at hF
  refine lv_iload_n hx hb d_Model_two_0 rfl (lv_at hl 0 rfl) ?_
  by_cases c_1 : v0 = 11
  · replace hF := ifT hF c_1
    refine lv_tableIn (tgt := 44) hx hb d_Model_two_1 (by rw [c_1]; decide) (by rw [c_1]; decide) (by rw [c_1]; rfl) (by decide) ?_
    refine lv_iload_n hx hb d_Model_two_44 rfl (lv_at hl 1 rfl) ?_
    refine lv_if_ne (tgt := 52) hx hb d_Model_two_45 (by decide) (fun c_2 => ?_) (fun c_2 => ?_)
    · replace hF := ifT hF c_2
      refine lv_iconst (v := 1) hx hb d_Model_two_52 (by decide) ?_
      refine lv_goto (tgt := 57) hx hb d_Model_two_53 (by decide) ?_
      subst hF
      exact r_iret K hw d_Model_two_57
    · replace hF := ifN hF c_2
      refine lv_iload_n hx hb d_Model_two_48 rfl (lv_at hl 2 rfl) ?_
      refine lv_if_eq (tgt := 56) hx hb d_Model_two_49 (by decide) (fun c_3 => ?_) (fun c_3 => ?_)
      · replace hF := ifT hF c_3
        refine lv_iconst (v := 0) hx hb d_Model_two_56 (by decide) ?_
        subst hF
        exact r_iret K hw d_Model_two_57
      · replace hF := ifF hF c_3
        refine lv_iconst (v := 1) hx hb d_Model_two_52 (by decide) ?_
        refine lv_goto (tgt := 57) hx hb d_Model_two_53 (by decide) ?_
        subst hF
        exact r_iret K hw d_Model_two_57
  replace hF := ifF hF c_1
  by_cases c_4 : v0 = 12
  · replace hF := ifT hF c_4
    refine lv_tableIn (tgt := 58) hx hb d_Model_two_1 (by rw [c_4]; decide) (by rw [c_4]; decide) (by rw [c_4]; rfl) (by decide) ?_
    refine lv_iload_n hx hb d_Model_two_58 rfl (lv_at hl 1 rfl) ?_
    refine lv_if_eq (tgt := 70) hx hb d_Model_two_59 (by decide) (fun c_5 => ?_) (fun c_5 => ?_)
    · replace hF := ifT hF c_5
      refine lv_iconst (v := 0) hx hb d_Model_two_70 (by decide) ?_
      subst hF
      exact r_iret K hw d_Model_two_71
    · replace hF := ifF hF c_5
      refine lv_iload_n hx hb d_Model_two_62 rfl (lv_at hl 2 rfl) ?_
      refine lv_if_eq (tgt := 70) hx hb d_Model_two_63 (by decide) (fun c_6 => ?_) (fun c_6 => ?_)
      · replace hF := ifT hF c_6
        refine lv_iconst (v := 0) hx hb d_Model_two_70 (by decide) ?_
        subst hF
        exact r_iret K hw d_Model_two_71
      · replace hF := ifF hF c_6
        refine lv_iconst (v := 1) hx hb d_Model_two_66 (by decide) ?_
        refine lv_goto (tgt := 71) hx hb d_Model_two_67 (by decide) ?_
        subst hF
        exact r_iret K hw d_Model_two_71
  replace hF := ifF hF c_4
  by_cases c_7 : v0 = 13
  · replace hF := ifT hF c_7
    refine lv_tableIn (tgt := 102) hx hb d_Model_two_1 (by rw [c_7]; decide) (by rw [c_7]; decide) (by rw [c_7]; rfl) (by decide) ?_
    exact q_Model_two_102 s0 K _ _ _ _ _  hw (lv_sub hl [1, 2] rfl) hF
  replace hF := ifF hF c_7
  by_cases c_8 : v0 = 14
  · replace hF := ifT hF c_8
    refine lv_tableIn (tgt := 72) hx hb d_Model_two_1 (by rw [c_8]; decide) (by rw [c_8]; decide) (by rw [c_8]; rfl) (by decide) ?_
    refine lv_iload_n hx hb d_Model_two_72 rfl (lv_at hl 1 rfl) ?_
    refine lv_iload_n hx hb d_Model_two_73 rfl (lv_at hl 2 rfl) ?_
    refine lv_icmp_ge (tgt := 81) hx hb d_Model_two_74 (by decide) (fun c_9 => ?_) (fun c_9 => ?_)
    · replace hF := ifT hF c_9
      refine lv_iconst (v := 0) hx hb d_Model_two_81 (by decide) ?_
      subst hF
      exact r_iret K hw d_Model_two_82
    · replace hF := ifF hF c_9
      refine lv_iconst (v := 1) hx hb d_Model_two_77 (by decide) ?_
      refine lv_goto (tgt := 82) hx hb d_Model_two_78 (by decide) ?_
      subst hF
      exact r_iret K hw d_Model_two_82
  replace hF := ifF hF c_8
  by_cases c_10 : v0 = 15
  · replace hF := ifT hF c_10
    refine lv_tableIn (tgt := 83) hx hb d_Model_two_1 (by rw [c_10]; decide) (by rw [c_10]; decide) (by rw [c_10]; rfl) (by decide) ?_
    refine lv_iload_n hx hb d_Model_two_83 rfl (lv_at hl 1 rfl) ?_
    refine lv_iload_n hx hb d_Model_two_84 rfl (lv_at hl 2 rfl) ?_
    refine lv_icmp_ne (tgt := 92) hx hb d_Model_two_85 (by decide) (fun c_11 => ?_) (fun c_11 => ?_)
    · replace hF := ifT hF c_11
      refine lv_iconst (v := 0) hx hb d_Model_two_92 (by decide) ?_
      subst hF
      exact r_iret K hw d_Model_two_93
    · replace hF := ifN hF c_11
      refine lv_iconst (v := 1) hx hb d_Model_two_88 (by decide) ?_
      refine lv_goto (tgt := 93) hx hb d_Model_two_89 (by decide) ?_
      subst hF
      exact r_iret K hw d_Model_two_93
  replace hF := ifF hF c_10
  by_cases c_12 : v0 = 16
  · replace hF := ifT hF c_12
    refine lv_tableIn (tgt := 94) hx hb d_Model_two_1 (by rw [c_12]; decide) (by rw [c_12]; decide) (by rw [c_12]; rfl) (by decide) ?_
    refine lv_iload_n hx hb d_Model_two_94 rfl (lv_at hl 1 rfl) ?_
    refine lv_iload_n hx hb d_Model_two_95 rfl (lv_at hl 2 rfl) ?_
    refine lv_iadd hx hb d_Model_two_96 ?_
    subst hF
    exact r_iret K hw d_Model_two_97
  replace hF := ifF hF c_12
  by_cases c_13 : v0 = 17
  · replace hF := ifT hF c_13
    refine lv_tableIn (tgt := 98) hx hb d_Model_two_1 (by rw [c_13]; decide) (by rw [c_13]; decide) (by rw [c_13]; rfl) (by decide) ?_
    refine lv_iload_n hx hb d_Model_two_98 rfl (lv_at hl 1 rfl) ?_
    refine lv_iload_n hx hb d_Model_two_99 rfl (lv_at hl 2 rfl) ?_
    refine lv_isub hx hb d_Model_two_100 ?_
    subst hF
    exact r_iret K hw d_Model_two_101
  replace hF := ifF hF c_13
  have nc_1 : ¬ (v0).toInt = 11 := lv_neT c_1 rfl
  have nc_4 : ¬ (v0).toInt = 12 := lv_neT c_4 rfl
  have nc_7 : ¬ (v0).toInt = 13 := lv_neT c_7 rfl
  have nc_8 : ¬ (v0).toInt = 14 := lv_neT c_8 rfl
  have nc_10 : ¬ (v0).toInt = 15 := lv_neT c_10 rfl
  have nc_12 : ¬ (v0).toInt = 16 := lv_neT c_12 rfl
  have nc_13 : ¬ (v0).toInt = 17 := lv_neT c_13 rfl
  refine lv_tableOut (tgt := 102) hx hb d_Model_two_1 (by omega) (by decide) ?_
  exact q_Model_two_102 s0 K _ _ _ _ _  hw (lv_sub hl [1, 2] rfl) hF
end S_Model_two
noncomputable abbrev F_Model_two := F_Model_two_0
theorem c_Model_two {l : Launch} {D : va_G} {cA : Nat → ClassId} {ad : Nat → Nat} {s0 : St} {r : Int32} {v0 : Int32} {v1 : Int32} {v2 : Int32}  (hF : F_Model_two v0 v1 v2 = r) : MI l D cA ad shM y_Model_two (wT y_Model_two b_Model_two 3 (some .int)) rm_Model_two [.int v0, .int v1, .int v2] s0 r s0 := fun sz => m_start (Qc := fun A => QcI D cA ad shM A r s0) (by decide +kernel) w_1195 (Nat.le_of_ble_eq_true rfl) (fun p e s m below meth c ls K hl hw => q_Model_two_0 s0 K _ _ _ _ _ _  hw hl hF)

/-! Model.says(I)I -/
abbrev b_Model_says : ByteArray := prog_13_method_23_code
def y_Model_says : MethodName := ⟨R_Model, "says", "(I)I"⟩
theorem a_Model_says : y_Model_says.cls = R_Model ∧ y_Model_says.cls ≠ "java/lang/invoke/MethodHandle" ∧ y_Model_says.cls ≠ "java/lang/invoke/VarHandle" ∧ (parseMethodDescriptor y_Model_says.desc).map (fun d => d.parameters.length) = some 1 := by decide +kernel
abbrev rm_Model_says : Room := { frames := 1, cells := 0, slots := 0, locals := 22 }
theorem w_1055 : Cond.fieldLink R_Model 58 R_Model "stack" "[I" ∈ TB := tb_in 1055 (by decide +kernel) (by decide +kernel)
theorem w_1056 : Cond.fieldLink R_Model 61 R_Model "named" "[I" ∈ TB := tb_in 1056 (by decide +kernel) (by decide +kernel)
theorem w_1193 : Cond.methodLink R_Model 155 y_Model_two ∈ TB := tb_in 1193 (by decide +kernel) (by decide +kernel)
theorem w_1194 : Cond.static y_Model_two ∈ TB := tb_in 1194 (by decide +kernel) (by decide +kernel)
theorem w_1192 : Cond.code y_Model_says b_Model_says 5 (some .int) ∈ TB := tb_in 1192 (by decide +kernel) (by decide +kernel)
theorem d_Model_says_0 : decode b_Model_says 0 = .ok (.iconst 0, 1) := by decide +kernel
theorem d_Model_says_1 : decode b_Model_says 1 = .ok (.istore_n 2, 1) := by decide +kernel
theorem d_Model_says_2 : decode b_Model_says 2 = .ok (.aload_n 0, 1) := by decide +kernel
theorem d_Model_says_3 : decode b_Model_says 3 = .ok (.getfield 31, 3) := by decide +kernel
theorem d_Model_says_6 : decode b_Model_says 6 = .ok (.iconst 4, 1) := by decide +kernel
theorem d_Model_says_7 : decode b_Model_says 7 = .ok (.aload_n 0, 1) := by decide +kernel
theorem d_Model_says_8 : decode b_Model_says 8 = .ok (.getfield 93, 3) := by decide +kernel
theorem d_Model_says_11 : decode b_Model_says 11 = .ok (.imul, 1) := by decide +kernel
theorem d_Model_says_12 : decode b_Model_says 12 = .ok (.iload_n 1, 1) := by decide +kernel
theorem d_Model_says_13 : decode b_Model_says 13 = .ok (.iadd, 1) := by decide +kernel
theorem d_Model_says_14 : decode b_Model_says 14 = .ok (.iaload, 1) := by decide +kernel
theorem d_Model_says_15 : decode b_Model_says 15 = .ok (.istore_n 3, 1) := by decide +kernel
theorem d_Model_says_16 : decode b_Model_says 16 = .ok (.iload_n 3, 1) := by decide +kernel
theorem d_Model_says_17 : decode b_Model_says 17 = .ok (.aload_n 0, 1) := by decide +kernel
theorem d_Model_says_18 : decode b_Model_says 18 = .ok (.getfield 31, 3) := by decide +kernel
theorem d_Model_says_21 : decode b_Model_says 21 = .ok (.iconst 4, 1) := by decide +kernel
theorem d_Model_says_22 : decode b_Model_says 22 = .ok (.aload_n 0, 1) := by decide +kernel
theorem d_Model_says_23 : decode b_Model_says 23 = .ok (.getfield 93, 3) := by decide +kernel
theorem d_Model_says_26 : decode b_Model_says 26 = .ok (.imul, 1) := by decide +kernel
theorem d_Model_says_27 : decode b_Model_says 27 = .ok (.iload_n 1, 1) := by decide +kernel
theorem d_Model_says_28 : decode b_Model_says 28 = .ok (.iadd, 1) := by decide +kernel
theorem d_Model_says_29 : decode b_Model_says 29 = .ok (.iconst 1, 1) := by decide +kernel
theorem d_Model_says_30 : decode b_Model_says 30 = .ok (.iadd, 1) := by decide +kernel
theorem d_Model_says_31 : decode b_Model_says 31 = .ok (.iaload, 1) := by decide +kernel
theorem d_Model_says_32 : decode b_Model_says 32 = .ok (.if_icmp .ge 165, 3) := by decide +kernel
theorem d_Model_says_35 : decode b_Model_says 35 = .ok (.aload_n 0, 1) := by decide +kernel
theorem d_Model_says_36 : decode b_Model_says 36 = .ok (.getfield 28, 3) := by decide +kernel
theorem d_Model_says_39 : decode b_Model_says 39 = .ok (.sipush 200, 3) := by decide +kernel
theorem d_Model_says_42 : decode b_Model_says 42 = .ok (.aload_n 0, 1) := by decide +kernel
theorem d_Model_says_43 : decode b_Model_says 43 = .ok (.getfield 93, 3) := by decide +kernel
theorem d_Model_says_46 : decode b_Model_says 46 = .ok (.imul, 1) := by decide +kernel
theorem d_Model_says_47 : decode b_Model_says 47 = .ok (.iload_n 3, 1) := by decide +kernel
theorem d_Model_says_48 : decode b_Model_says 48 = .ok (.iadd, 1) := by decide +kernel
theorem d_Model_says_49 : decode b_Model_says 49 = .ok (.iaload, 1) := by decide +kernel
theorem d_Model_says_50 : decode b_Model_says 50 = .ok (.istore 4, 2) := by decide +kernel
theorem d_Model_says_52 : decode b_Model_says 52 = .ok (.iload 4, 2) := by decide +kernel
theorem d_Model_says_54 : decode b_Model_says 54 = .ok (.ldc 141, 2) := by decide +kernel
theorem d_Model_says_56 : decode b_Model_says 56 = .ok (.if_icmp .ge 10, 3) := by decide +kernel
theorem d_Model_says_59 : decode b_Model_says 59 = .ok (.iload 4, 2) := by decide +kernel
theorem d_Model_says_61 : decode b_Model_says 61 = .ok (.bipush 11, 2) := by decide +kernel
theorem d_Model_says_63 : decode b_Model_says 63 = .ok (.if_icmp .ge 37, 3) := by decide +kernel
theorem d_Model_says_66 : decode b_Model_says 66 = .ok (.aload_n 0, 1) := by decide +kernel
theorem d_Model_says_67 : decode b_Model_says 67 = .ok (.getfield 58, 3) := by decide +kernel
theorem d_Model_says_70 : decode b_Model_says 70 = .ok (.iload_n 2, 1) := by decide +kernel
theorem d_Model_says_71 : decode b_Model_says 71 = .ok (.iload 4, 2) := by decide +kernel
theorem d_Model_says_73 : decode b_Model_says 73 = .ok (.bipush 11, 2) := by decide +kernel
theorem d_Model_says_75 : decode b_Model_says 75 = .ok (.if_icmp .ge 13, 3) := by decide +kernel
theorem d_Model_says_78 : decode b_Model_says 78 = .ok (.aload_n 0, 1) := by decide +kernel
theorem d_Model_says_79 : decode b_Model_says 79 = .ok (.getfield 61, 3) := by decide +kernel
theorem d_Model_says_82 : decode b_Model_says 82 = .ok (.iload 4, 2) := by decide +kernel
theorem d_Model_says_84 : decode b_Model_says 84 = .ok (.iaload, 1) := by decide +kernel
theorem d_Model_says_85 : decode b_Model_says 85 = .ok (.goto 8, 3) := by decide +kernel
theorem d_Model_says_88 : decode b_Model_says 88 = .ok (.iload 4, 2) := by decide +kernel
theorem d_Model_says_90 : decode b_Model_says 90 = .ok (.ldc 141, 2) := by decide +kernel
theorem d_Model_says_92 : decode b_Model_says 92 = .ok (.isub, 1) := by decide +kernel
theorem d_Model_says_93 : decode b_Model_says 93 = .ok (.iastore, 1) := by decide +kernel
theorem d_Model_says_94 : decode b_Model_says 94 = .ok (.iinc 2 1, 3) := by decide +kernel
theorem d_Model_says_97 : decode b_Model_says 97 = .ok (.goto 94, 3) := by decide +kernel
theorem d_Model_says_100 : decode b_Model_says 100 = .ok (.iload 4, 2) := by decide +kernel
theorem d_Model_says_102 : decode b_Model_says 102 = .ok (.bipush 13, 2) := by decide +kernel
theorem d_Model_says_104 : decode b_Model_says 104 = .ok (.if_icmp .ne 30, 3) := by decide +kernel
theorem d_Model_says_107 : decode b_Model_says 107 = .ok (.aload_n 0, 1) := by decide +kernel
theorem d_Model_says_108 : decode b_Model_says 108 = .ok (.getfield 58, 3) := by decide +kernel
theorem d_Model_says_111 : decode b_Model_says 111 = .ok (.iload_n 2, 1) := by decide +kernel
theorem d_Model_says_112 : decode b_Model_says 112 = .ok (.iconst 1, 1) := by decide +kernel
theorem d_Model_says_113 : decode b_Model_says 113 = .ok (.isub, 1) := by decide +kernel
theorem d_Model_says_114 : decode b_Model_says 114 = .ok (.aload_n 0, 1) := by decide +kernel
theorem d_Model_says_115 : decode b_Model_says 115 = .ok (.getfield 58, 3) := by decide +kernel
theorem d_Model_says_118 : decode b_Model_says 118 = .ok (.iload_n 2, 1) := by decide +kernel
theorem d_Model_says_119 : decode b_Model_says 119 = .ok (.iconst 1, 1) := by decide +kernel
theorem d_Model_says_120 : decode b_Model_says 120 = .ok (.isub, 1) := by decide +kernel
theorem d_Model_says_121 : decode b_Model_says 121 = .ok (.iaload, 1) := by decide +kernel
theorem d_Model_says_122 : decode b_Model_says 122 = .ok (.ifCond .ne 7, 3) := by decide +kernel
theorem d_Model_says_125 : decode b_Model_says 125 = .ok (.iconst 1, 1) := by decide +kernel
theorem d_Model_says_126 : decode b_Model_says 126 = .ok (.goto 4, 3) := by decide +kernel
theorem d_Model_says_129 : decode b_Model_says 129 = .ok (.iconst 0, 1) := by decide +kernel
theorem d_Model_says_130 : decode b_Model_says 130 = .ok (.iastore, 1) := by decide +kernel
theorem d_Model_says_131 : decode b_Model_says 131 = .ok (.goto 60, 3) := by decide +kernel
theorem d_Model_says_134 : decode b_Model_says 134 = .ok (.iload 4, 2) := by decide +kernel
theorem d_Model_says_136 : decode b_Model_says 136 = .ok (.bipush 19, 2) := by decide +kernel
theorem d_Model_says_138 : decode b_Model_says 138 = .ok (.if_icmp .ne 23, 3) := by decide +kernel
theorem d_Model_says_141 : decode b_Model_says 141 = .ok (.aload_n 0, 1) := by decide +kernel
theorem d_Model_says_142 : decode b_Model_says 142 = .ok (.getfield 58, 3) := by decide +kernel
theorem d_Model_says_145 : decode b_Model_says 145 = .ok (.iload_n 2, 1) := by decide +kernel
theorem d_Model_says_146 : decode b_Model_says 146 = .ok (.iconst 1, 1) := by decide +kernel
theorem d_Model_says_147 : decode b_Model_says 147 = .ok (.isub, 1) := by decide +kernel
theorem d_Model_says_148 : decode b_Model_says 148 = .ok (.aload_n 0, 1) := by decide +kernel
theorem d_Model_says_149 : decode b_Model_says 149 = .ok (.getfield 58, 3) := by decide +kernel
theorem d_Model_says_152 : decode b_Model_says 152 = .ok (.iload_n 2, 1) := by decide +kernel
theorem d_Model_says_153 : decode b_Model_says 153 = .ok (.iconst 1, 1) := by decide +kernel
theorem d_Model_says_154 : decode b_Model_says 154 = .ok (.isub, 1) := by decide +kernel
theorem d_Model_says_155 : decode b_Model_says 155 = .ok (.iaload, 1) := by decide +kernel
theorem d_Model_says_156 : decode b_Model_says 156 = .ok (.ineg, 1) := by decide +kernel
theorem d_Model_says_157 : decode b_Model_says 157 = .ok (.iastore, 1) := by decide +kernel
theorem d_Model_says_158 : decode b_Model_says 158 = .ok (.goto 33, 3) := by decide +kernel
theorem d_Model_says_161 : decode b_Model_says 161 = .ok (.iinc 2 (-1), 3) := by decide +kernel
theorem d_Model_says_164 : decode b_Model_says 164 = .ok (.aload_n 0, 1) := by decide +kernel
theorem d_Model_says_165 : decode b_Model_says 165 = .ok (.getfield 58, 3) := by decide +kernel
theorem d_Model_says_168 : decode b_Model_says 168 = .ok (.iload_n 2, 1) := by decide +kernel
theorem d_Model_says_169 : decode b_Model_says 169 = .ok (.iconst 1, 1) := by decide +kernel
theorem d_Model_says_170 : decode b_Model_says 170 = .ok (.isub, 1) := by decide +kernel
theorem d_Model_says_171 : decode b_Model_says 171 = .ok (.iload 4, 2) := by decide +kernel
theorem d_Model_says_173 : decode b_Model_says 173 = .ok (.aload_n 0, 1) := by decide +kernel
theorem d_Model_says_174 : decode b_Model_says 174 = .ok (.getfield 58, 3) := by decide +kernel
theorem d_Model_says_177 : decode b_Model_says 177 = .ok (.iload_n 2, 1) := by decide +kernel
theorem d_Model_says_178 : decode b_Model_says 178 = .ok (.iconst 1, 1) := by decide +kernel
theorem d_Model_says_179 : decode b_Model_says 179 = .ok (.isub, 1) := by decide +kernel
theorem d_Model_says_180 : decode b_Model_says 180 = .ok (.iaload, 1) := by decide +kernel
theorem d_Model_says_181 : decode b_Model_says 181 = .ok (.aload_n 0, 1) := by decide +kernel
theorem d_Model_says_182 : decode b_Model_says 182 = .ok (.getfield 58, 3) := by decide +kernel
theorem d_Model_says_185 : decode b_Model_says 185 = .ok (.iload_n 2, 1) := by decide +kernel
theorem d_Model_says_186 : decode b_Model_says 186 = .ok (.iaload, 1) := by decide +kernel
theorem d_Model_says_187 : decode b_Model_says 187 = .ok (.invokestatic 155, 3) := by decide +kernel
theorem d_Model_says_190 : decode b_Model_says 190 = .ok (.iastore, 1) := by decide +kernel
theorem d_Model_says_191 : decode b_Model_says 191 = .ok (.iinc 3 1, 3) := by decide +kernel
theorem d_Model_says_194 : decode b_Model_says 194 = .ok (.goto (-178), 3) := by decide +kernel
theorem d_Model_says_197 : decode b_Model_says 197 = .ok (.aload_n 0, 1) := by decide +kernel
theorem d_Model_says_198 : decode b_Model_says 198 = .ok (.getfield 58, 3) := by decide +kernel
theorem d_Model_says_201 : decode b_Model_says 201 = .ok (.iconst 0, 1) := by decide +kernel
theorem d_Model_says_202 : decode b_Model_says 202 = .ok (.iaload, 1) := by decide +kernel
theorem d_Model_says_203 : decode b_Model_says 203 = .ok (.ireturn, 1) := by decide +kernel
section S_Model_says
variable {p : Program} {l : Launch} {e : Env} {s : State} {m : MethodId} {args : Array Value} {below : List Frame} {meth : Method} {c : Code} {D : va_G} {cA : Nat → ClassId} {ad : Nat → Nat} {nC : Nat} {A : Nat → Prop} {r : Int32} {τ : St}
noncomputable def F_Model_says_191 (k12 : (St → Int32 → Int32 → Int32 → Option (Int32 × St))) (s0 : St) (v1 : Int32) (v2 : Int32) (v3 : Int32) : Option (Int32 × St) := (k12 s0 v1 v2 (v3 + 1))
set_option maxHeartbeats 4000000 in
set_option maxRecDepth 100000 in
theorem q_Model_says_191 (K : Fx p s m args meth c b_Model_says 5 R_Model (some .int)) (k12 : (St → Int32 → Int32 → Int32 → Option (Int32 × St))) (hk12 : ∀ (H : Heap) (locs : List Loc) (ls : Array Slot) (s0 : St) (v1 : Int32) (v2 : Int32) (v3 : Int32), Wh D cA ad shM A s s0 H locs → lv_has ls 5 [(0, .ref (ad 0)), (1, .int v1), (2, .int v2), (3, .int v3)] → k12 s0 v1 v2 v3 = (some (r, τ)) → W p l e rm_Model_says s m args below meth c H locs 0 0 (MQ below (QcI D cA ad shM A r τ) args s 0 0 A) (F0 m 16 ls [])) : ∀ (H : Heap) (locs : List Loc) (ls : Array Slot) (s0 : St) (v1 : Int32) (v2 : Int32) (v3 : Int32), Wh D cA ad shM A s s0 H locs → lv_has ls 5 [(0, .ref (ad 0)), (1, .int v1), (2, .int v2), (3, .int v3)] → F_Model_says_191 k12 s0 v1 v2 v3 = (some (r, τ)) → W p l e rm_Model_says s m args below meth c H locs 0 0 (MQ below (QcI D cA ad shM A r τ) args s 0 0 A) (F0 m 191 ls []) := by
  have hx := K.1.1; have hb := K.1.2.1
  intro H locs ls s0 v1 v2 v3 hw hl hF
  unfold F_Model_says_191 at hF
  refine lv_iinc (v := (v3 + 1)) (lv' := [(3, .int (v3 + 1)), (0, .ref (ad 0)), (1, .int v1), (2, .int v2)]) hx hb d_Model_says_191 hl (k := 3) rfl rfl (by decide) rfl (fun ls hl => ?_)
  refine lv_goto (tgt := 16) hx hb d_Model_says_194 (by decide) ?_
  exact hk12 _ _ _ _ _ _ _  hw (lv_sub hl [1, 2, 3, 0] rfl) hF
noncomputable def F_Model_says_93 (k12 : (St → Int32 → Int32 → Int32 → Option (Int32 × St))) (s0 : St) (v1 : Int32) (v2 : Int32) (v3 : Int32) (t1 : Int32) (t2 : Int32) : Option (Int32 × St) := (if inB t1 200 = true then (lt (up1 s0 17 t1.toNatClampNeg t2) (fun s_10 => (F_Model_says_191 k12 s_10 v1 (v2 + 1) v3))) else none)
set_option maxHeartbeats 4000000 in
set_option maxRecDepth 100000 in
theorem q_Model_says_93 (K : Fx p s m args meth c b_Model_says 5 R_Model (some .int)) (k12 : (St → Int32 → Int32 → Int32 → Option (Int32 × St))) (hk12 : ∀ (H : Heap) (locs : List Loc) (ls : Array Slot) (s0 : St) (v1 : Int32) (v2 : Int32) (v3 : Int32), Wh D cA ad shM A s s0 H locs → lv_has ls 5 [(0, .ref (ad 0)), (1, .int v1), (2, .int v2), (3, .int v3)] → k12 s0 v1 v2 v3 = (some (r, τ)) → W p l e rm_Model_says s m args below meth c H locs 0 0 (MQ below (QcI D cA ad shM A r τ) args s 0 0 A) (F0 m 16 ls [])) : ∀ (H : Heap) (locs : List Loc) (ls : Array Slot) (s0 : St) (v1 : Int32) (v2 : Int32) (v3 : Int32) (t1 : Int32) (t2 : Int32), Wh D cA ad shM A s s0 H locs → lv_has ls 5 [(0, .ref (ad 0)), (1, .int v1), (2, .int v2), (3, .int v3)] → F_Model_says_93 k12 s0 v1 v2 v3 t1 t2 = (some (r, τ)) → W p l e rm_Model_says s m args below meth c H locs 0 0 (MQ below (QcI D cA ad shM A r τ) args s 0 0 A) (F0 m 93 ls [.int t2, .int t1, .ref (ad 17)]) := by
  have hx := K.1.1; have hb := K.1.2.1
  intro H locs ls s0 v1 v2 v3 t1 t2 hw hl hF
  unfold F_Model_says_93 at hF
  obtain ⟨g_9, hF⟩ := ifG hF
  refine r_iast (k := t1.toNatClampNeg) K hw (show shM[17]? = some (.inr (.inl 200)) from rfl) rfl (inB_vp g_9) d_Model_says_93 (fun s_10 f_s_10 H locs hw => ?_)
  replace hF := ltN hF f_s_10
  refine lv_iinc (v := (v2 + 1)) (lv' := [(2, .int (v2 + 1)), (0, .ref (ad 0)), (1, .int v1), (3, .int v3)]) hx hb d_Model_says_94 hl (k := 2) rfl rfl (by decide) rfl (fun ls hl => ?_)
  refine lv_goto (tgt := 191) hx hb d_Model_says_97 (by decide) ?_
  exact q_Model_says_191 K k12 hk12 _ _ _ _ _ _ _  hw (lv_sub hl [1, 2, 0, 3] rfl) hF
noncomputable def F_Model_says_66 (k12 : (St → Int32 → Int32 → Int32 → Option (Int32 × St))) (s0 : St) (v1 : Int32) (v2 : Int32) (v3 : Int32) (v4 : Int32) : Option (Int32 × St) := (if (11 : Int32) ≤ v4 then (F_Model_says_93 k12 s0 v1 v2 v3 v2 (v4 - (100000 : Int32))) else (if inB v4 6 = true then (F_Model_says_93 k12 s0 v1 v2 v3 v2 (s0.1 18 v4.toNatClampNeg)) else none))
set_option maxHeartbeats 4000000 in
set_option maxRecDepth 100000 in
theorem q_Model_says_66 (K : Fx p s m args meth c b_Model_says 5 R_Model (some .int)) (k12 : (St → Int32 → Int32 → Int32 → Option (Int32 × St))) (hk12 : ∀ (H : Heap) (locs : List Loc) (ls : Array Slot) (s0 : St) (v1 : Int32) (v2 : Int32) (v3 : Int32), Wh D cA ad shM A s s0 H locs → lv_has ls 5 [(0, .ref (ad 0)), (1, .int v1), (2, .int v2), (3, .int v3)] → k12 s0 v1 v2 v3 = (some (r, τ)) → W p l e rm_Model_says s m args below meth c H locs 0 0 (MQ below (QcI D cA ad shM A r τ) args s 0 0 A) (F0 m 16 ls [])) : ∀ (H : Heap) (locs : List Loc) (ls : Array Slot) (s0 : St) (v1 : Int32) (v2 : Int32) (v3 : Int32) (v4 : Int32), Wh D cA ad shM A s s0 H locs → lv_has ls 5 [(0, .ref (ad 0)), (1, .int v1), (2, .int v2), (3, .int v3), (4, .int v4)] → F_Model_says_66 k12 s0 v1 v2 v3 v4 = (some (r, τ)) → W p l e rm_Model_says s m args below meth c H locs 0 0 (MQ below (QcI D cA ad shM A r τ) args s 0 0 A) (F0 m 66 ls []) := by
  have hx := K.1.1; have hb := K.1.2.1
  intro H locs ls s0 v1 v2 v3 v4 hw hl hF
  unfold F_Model_says_66 at hF
  refine lv_aload_n hx hb d_Model_says_66 rfl (lv_at hl 0 rfl) ?_
  refine r_get (v := .ref (ad 17)) K hw i_Model sh_Model rfl 30 (by decide) w_1055 rfl rfl rfl d_Model_says_67 ?_
  refine lv_iload_n hx hb d_Model_says_70 rfl (lv_at hl 2 rfl) ?_
  refine lv_iload hx hb d_Model_says_71 (lv_at hl 4 rfl) ?_
  refine lv_bipush (v := 11) hx hb d_Model_says_73 (by decide) ?_
  refine lv_icmp_ge (tgt := 88) hx hb d_Model_says_75 (by decide) (fun c_8 => ?_) (fun c_8 => ?_)
  · replace hF := ifT hF c_8
    refine lv_iload hx hb d_Model_says_88 (lv_at hl 4 rfl) ?_
    refine lv_ldc (v := 100000) hx hb K.1.2.2.2.1 (K.1.2.2.2.2 _ w_997) d_Model_says_90 ?_
    refine lv_isub hx hb d_Model_says_92 ?_
    exact q_Model_says_93 K k12 hk12 _ _ _ _ _ _ _ _ _  hw (lv_sub hl [0, 1, 2, 3] rfl) hF
  · replace hF := ifF hF c_8
    refine lv_aload_n hx hb d_Model_says_78 rfl (lv_at hl 0 rfl) ?_
    refine r_get (v := .ref (ad 18)) K hw i_Model sh_Model rfl 31 (by decide) w_1056 rfl rfl rfl d_Model_says_79 ?_
    refine lv_iload hx hb d_Model_says_82 (lv_at hl 4 rfl) ?_
    obtain ⟨g_11, hF⟩ := ifG hF
    refine r_iald (k := v4.toNatClampNeg) K hw (show shM[18]? = some (.inr (.inl 6)) from rfl) rfl (inB_vp g_11) d_Model_says_84 ?_
    refine lv_goto (tgt := 93) hx hb d_Model_says_85 (by decide) ?_
    exact q_Model_says_93 K k12 hk12 _ _ _ _ _ _ _ _ _  hw (lv_sub hl [0, 1, 2, 3] rfl) hF
noncomputable def F_Model_says_130 (k12 : (St → Int32 → Int32 → Int32 → Option (Int32 × St))) (s0 : St) (v1 : Int32) (v2 : Int32) (v3 : Int32) (t1 : Int32) (t2 : Int32) : Option (Int32 × St) := (if inB t1 200 = true then (lt (up1 s0 17 t1.toNatClampNeg t2) (fun s_25 => (F_Model_says_191 k12 s_25 v1 v2 v3))) else none)
set_option maxHeartbeats 4000000 in
set_option maxRecDepth 100000 in
theorem q_Model_says_130 (K : Fx p s m args meth c b_Model_says 5 R_Model (some .int)) (k12 : (St → Int32 → Int32 → Int32 → Option (Int32 × St))) (hk12 : ∀ (H : Heap) (locs : List Loc) (ls : Array Slot) (s0 : St) (v1 : Int32) (v2 : Int32) (v3 : Int32), Wh D cA ad shM A s s0 H locs → lv_has ls 5 [(0, .ref (ad 0)), (1, .int v1), (2, .int v2), (3, .int v3)] → k12 s0 v1 v2 v3 = (some (r, τ)) → W p l e rm_Model_says s m args below meth c H locs 0 0 (MQ below (QcI D cA ad shM A r τ) args s 0 0 A) (F0 m 16 ls [])) : ∀ (H : Heap) (locs : List Loc) (ls : Array Slot) (s0 : St) (v1 : Int32) (v2 : Int32) (v3 : Int32) (t1 : Int32) (t2 : Int32), Wh D cA ad shM A s s0 H locs → lv_has ls 5 [(0, .ref (ad 0)), (1, .int v1), (2, .int v2), (3, .int v3)] → F_Model_says_130 k12 s0 v1 v2 v3 t1 t2 = (some (r, τ)) → W p l e rm_Model_says s m args below meth c H locs 0 0 (MQ below (QcI D cA ad shM A r τ) args s 0 0 A) (F0 m 130 ls [.int t2, .int t1, .ref (ad 17)]) := by
  have hx := K.1.1; have hb := K.1.2.1
  intro H locs ls s0 v1 v2 v3 t1 t2 hw hl hF
  unfold F_Model_says_130 at hF
  obtain ⟨g_24, hF⟩ := ifG hF
  refine r_iast (k := t1.toNatClampNeg) K hw (show shM[17]? = some (.inr (.inl 200)) from rfl) rfl (inB_vp g_24) d_Model_says_130 (fun s_25 f_s_25 H locs hw => ?_)
  replace hF := ltN hF f_s_25
  refine lv_goto (tgt := 191) hx hb d_Model_says_131 (by decide) ?_
  exact q_Model_says_191 K k12 hk12 _ _ _ _ _ _ _  hw (lv_sub hl [0, 1, 2, 3] rfl) hF
noncomputable def F_Model_says_16 : Nat → St → Int32 → Int32 → Int32 → Option (Int32 × St)
  | 0, _, _, _, _ => none
  | n + 1, s0, v1, v2, v3 => (if inB ((((4 : Int32) * (s0.1 0 11)) + v1) + (1 : Int32)) 24 = true then (if (s0.1 8 ((((4 : Int32) * (s0.1 0 11)) + v1) + (1 : Int32)).toNatClampNeg) ≤ v3 then (some ((s0.1 17 0), s0)) else (if inB (((200 : Int32) * (s0.1 0 11)) + v3) 1200 = true then (lt ((s0.1 7 (((200 : Int32) * (s0.1 0 11)) + v3).toNatClampNeg)) (fun w_6 => (if (100000 : Int32) ≤ w_6 then (F_Model_says_66 (fun z0 zv1 zv2 zv3 => F_Model_says_16 n z0 zv1 zv2 zv3) s0 v1 v2 v3 w_6) else (if (11 : Int32) ≤ w_6 then (if ¬ w_6 = (13 : Int32) then (if ¬ w_6 = (19 : Int32) then (if inB ((v2 + (-1)) - (1 : Int32)) 200 = true then (if inB (v2 + (-1)) 200 = true then (if inB ((v2 + (-1)) - (1 : Int32)) 200 = true then (lt (up1 s0 17 ((v2 + (-1)) - (1 : Int32)).toNatClampNeg (F_Model_two w_6 (s0.1 17 ((v2 + (-1)) - (1 : Int32)).toNatClampNeg) (s0.1 17 (v2 + (-1)).toNatClampNeg))) (fun s_18 => (F_Model_says_191 (fun z0 zv1 zv2 zv3 => F_Model_says_16 n z0 zv1 zv2 zv3) s_18 v1 (v2 + (-1)) v3))) else none) else none) else none) else (if inB (v2 - (1 : Int32)) 200 = true then (if inB (v2 - (1 : Int32)) 200 = true then (lt (up1 s0 17 (v2 - (1 : Int32)).toNatClampNeg (-(s0.1 17 (v2 - (1 : Int32)).toNatClampNeg))) (fun s_21 => (F_Model_says_191 (fun z0 zv1 zv2 zv3 => F_Model_says_16 n z0 zv1 zv2 zv3) s_21 v1 v2 v3))) else none) else none)) else (if inB (v2 - (1 : Int32)) 200 = true then (if ¬ (s0.1 17 (v2 - (1 : Int32)).toNatClampNeg) = 0 then (F_Model_says_130 (fun z0 zv1 zv2 zv3 => F_Model_says_16 n z0 zv1 zv2 zv3) s0 v1 v2 v3 (v2 - (1 : Int32)) (0 : Int32)) else (F_Model_says_130 (fun z0 zv1 zv2 zv3 => F_Model_says_16 n z0 zv1 zv2 zv3) s0 v1 v2 v3 (v2 - (1 : Int32)) (1 : Int32))) else none)) else (F_Model_says_66 (fun z0 zv1 zv2 zv3 => F_Model_says_16 n z0 zv1 zv2 zv3) s0 v1 v2 v3 w_6))))) else none)) else none)
set_option maxHeartbeats 4000000 in
set_option maxRecDepth 100000 in
theorem q_Model_says_16 (K : Fx p s m args meth c b_Model_says 5 R_Model (some .int))  : ∀ (n : Nat), ∀ (H : Heap) (locs : List Loc) (ls : Array Slot) (s0 : St) (v1 : Int32) (v2 : Int32) (v3 : Int32), Wh D cA ad shM A s s0 H locs → lv_has ls 5 [(0, .ref (ad 0)), (1, .int v1), (2, .int v2), (3, .int v3)] → F_Model_says_16 n s0 v1 v2 v3 = (some (r, τ)) → W p l e rm_Model_says s m args below meth c H locs 0 0 (MQ below (QcI D cA ad shM A r τ) args s 0 0 A) (F0 m 16 ls []) := by
  have hx := K.1.1; have hb := K.1.2.1
  intro n
  induction n with
  | zero =>
    intro H locs ls s0 v1 v2 v3 hw hl hF
    exact absurd hF (by rw [F_Model_says_16]; exact nofun)
  | succ n ih =>
    intro H locs ls s0 v1 v2 v3 hw hl hF
    rw [F_Model_says_16] at hF
    refine lv_iload_n hx hb d_Model_says_16 rfl (lv_at hl 3 rfl) ?_
    refine lv_aload_n hx hb d_Model_says_17 rfl (lv_at hl 0 rfl) ?_
    refine r_get (v := .ref (ad 8)) K hw i_Model sh_Model rfl 9 (by decide) w_1034 rfl rfl rfl d_Model_says_18 ?_
    refine lv_iconst (v := 4) hx hb d_Model_says_21 (by decide) ?_
    refine lv_aload_n hx hb d_Model_says_22 rfl (lv_at hl 0 rfl) ?_
    refine r_get (v := .int (s0.1 0 11)) K hw i_Model sh_Model rfl 11 (by decide) w_1036 rfl rfl rfl d_Model_says_23 ?_
    refine lv_imul hx hb d_Model_says_26 ?_
    refine lv_iload_n hx hb d_Model_says_27 rfl (lv_at hl 1 rfl) ?_
    refine lv_iadd hx hb d_Model_says_28 ?_
    refine lv_iconst (v := 1) hx hb d_Model_says_29 (by decide) ?_
    refine lv_iadd hx hb d_Model_says_30 ?_
    obtain ⟨g_3, hF⟩ := ifG hF
    refine r_iald (k := ((((4 : Int32) * (s0.1 0 11)) + v1) + (1 : Int32)).toNatClampNeg) K hw (show shM[8]? = some (.inr (.inl 24)) from rfl) rfl (inB_vp g_3) d_Model_says_31 ?_
    refine lv_icmp_ge (tgt := 197) hx hb d_Model_says_32 (by decide) (fun c_4 => ?_) (fun c_4 => ?_)
    · replace hF := ifT hF c_4
      refine lv_aload_n hx hb d_Model_says_197 rfl (lv_at hl 0 rfl) ?_
      refine r_get (v := .ref (ad 17)) K hw i_Model sh_Model rfl 30 (by decide) w_1055 rfl rfl rfl d_Model_says_198 ?_
      refine lv_iconst (v := 0) hx hb d_Model_says_201 (by decide) ?_
      refine r_iald (k := 0) K hw (show shM[17]? = some (.inr (.inl 200)) from rfl) (by decide) (inB_vp (by decide)) d_Model_says_202 ?_
      obtain ⟨hF, hG⟩ := sE2 hF
      subst hF
      subst hG
      exact r_iret K hw d_Model_says_203
    · replace hF := ifF hF c_4
      refine lv_aload_n hx hb d_Model_says_35 rfl (lv_at hl 0 rfl) ?_
      refine r_get (v := .ref (ad 7)) K hw i_Model sh_Model rfl 8 (by decide) w_1033 rfl rfl rfl d_Model_says_36 ?_
      refine lv_sipush (v := 200) hx hb d_Model_says_39 (by decide) ?_
      refine lv_aload_n hx hb d_Model_says_42 rfl (lv_at hl 0 rfl) ?_
      refine r_get (v := .int (s0.1 0 11)) K hw i_Model sh_Model rfl 11 (by decide) w_1036 rfl rfl rfl d_Model_says_43 ?_
      refine lv_imul hx hb d_Model_says_46 ?_
      refine lv_iload_n hx hb d_Model_says_47 rfl (lv_at hl 3 rfl) ?_
      refine lv_iadd hx hb d_Model_says_48 ?_
      obtain ⟨g_5, hF⟩ := ifG hF
      refine r_iald (k := (((200 : Int32) * (s0.1 0 11)) + v3).toNatClampNeg) K hw (show shM[7]? = some (.inr (.inl 1200)) from rfl) rfl (inB_vp g_5) d_Model_says_49 ?_
      refine lv_topi (fun w_6 f_w_6 => ?_)
      replace hF := ltN hF f_w_6
      refine lv_istore (lv' := [(4, .int w_6), (0, .ref (ad 0)), (1, .int v1), (2, .int v2), (3, .int v3)]) hx hb d_Model_says_50 hl (by decide) rfl (fun ls hl => ?_)
      refine lv_iload hx hb d_Model_says_52 (lv_at hl 0 rfl) ?_
      refine lv_ldc (v := 100000) hx hb K.1.2.2.2.1 (K.1.2.2.2.2 _ w_997) d_Model_says_54 ?_
      refine lv_icmp_ge (tgt := 66) hx hb d_Model_says_56 (by decide) (fun c_7 => ?_) (fun c_7 => ?_)
      · replace hF := ifT hF c_7
        exact q_Model_says_66 K (fun z0 zv1 zv2 zv3 => F_Model_says_16 n z0 zv1 zv2 zv3) ih _ _ _ _ _ _ _ _  hw (lv_sub hl [1, 2, 3, 4, 0] rfl) hF
      · replace hF := ifF hF c_7
        refine lv_iload hx hb d_Model_says_59 (lv_at hl 0 rfl) ?_
        refine lv_bipush (v := 11) hx hb d_Model_says_61 (by decide) ?_
        refine lv_icmp_ge (tgt := 100) hx hb d_Model_says_63 (by decide) (fun c_12 => ?_) (fun c_12 => ?_)
        · replace hF := ifT hF c_12
          refine lv_iload hx hb d_Model_says_100 (lv_at hl 0 rfl) ?_
          refine lv_bipush (v := 13) hx hb d_Model_says_102 (by decide) ?_
          refine lv_icmp_ne (tgt := 134) hx hb d_Model_says_104 (by decide) (fun c_13 => ?_) (fun c_13 => ?_)
          · replace hF := ifT hF c_13
            refine lv_iload hx hb d_Model_says_134 (lv_at hl 0 rfl) ?_
            refine lv_bipush (v := 19) hx hb d_Model_says_136 (by decide) ?_
            refine lv_icmp_ne (tgt := 161) hx hb d_Model_says_138 (by decide) (fun c_14 => ?_) (fun c_14 => ?_)
            · replace hF := ifT hF c_14
              refine lv_iinc (v := (v2 + (-1))) (lv' := [(2, .int (v2 + (-1))), (4, .int w_6), (0, .ref (ad 0)), (1, .int v1), (3, .int v3)]) hx hb d_Model_says_161 hl (k := 3) rfl rfl (by decide) rfl (fun ls hl => ?_)
              refine lv_aload_n hx hb d_Model_says_164 rfl (lv_at hl 2 rfl) ?_
              refine r_get (v := .ref (ad 17)) K hw i_Model sh_Model rfl 30 (by decide) w_1055 rfl rfl rfl d_Model_says_165 ?_
              refine lv_iload_n hx hb d_Model_says_168 rfl (lv_at hl 0 rfl) ?_
              refine lv_iconst (v := 1) hx hb d_Model_says_169 (by decide) ?_
              refine lv_isub hx hb d_Model_says_170 ?_
              refine lv_iload hx hb d_Model_says_171 (lv_at hl 1 rfl) ?_
              refine lv_aload_n hx hb d_Model_says_173 rfl (lv_at hl 2 rfl) ?_
              refine r_get (v := .ref (ad 17)) K hw i_Model sh_Model rfl 30 (by decide) w_1055 rfl rfl rfl d_Model_says_174 ?_
              refine lv_iload_n hx hb d_Model_says_177 rfl (lv_at hl 0 rfl) ?_
              refine lv_iconst (v := 1) hx hb d_Model_says_178 (by decide) ?_
              refine lv_isub hx hb d_Model_says_179 ?_
              obtain ⟨g_15, hF⟩ := ifG hF
              refine r_iald (k := ((v2 + (-1)) - (1 : Int32)).toNatClampNeg) K hw (show shM[17]? = some (.inr (.inl 200)) from rfl) rfl (inB_vp g_15) d_Model_says_180 ?_
              refine lv_aload_n hx hb d_Model_says_181 rfl (lv_at hl 2 rfl) ?_
              refine r_get (v := .ref (ad 17)) K hw i_Model sh_Model rfl 30 (by decide) w_1055 rfl rfl rfl d_Model_says_182 ?_
              refine lv_iload_n hx hb d_Model_says_185 rfl (lv_at hl 0 rfl) ?_
              obtain ⟨g_16, hF⟩ := ifG hF
              refine r_iald (k := (v2 + (-1)).toNatClampNeg) K hw (show shM[17]? = some (.inr (.inl 200)) from rfl) rfl (inB_vp g_16) d_Model_says_186 ?_
              refine r_callSI (As := [.int w_6, .int (s0.1 17 ((v2 + (-1)) - (1 : Int32)).toNatClampNeg), .int (s0.1 17 (v2 + (-1)).toNatClampNeg)]) (rest := [.int ((v2 + (-1)) - (1 : Int32)), .ref (ad 17)]) K hw hl.1 (c_Model_two (l := l) (D := D) (cA := cA) (ad := ad) (s0 := s0)   rfl) (tb_gS w_1193 w_1194 w_80 w_1195) a_Model_two ⟨rfl, rfl, Nat.le_of_ble_eq_true rfl, Nat.le_of_ble_eq_true rfl⟩ rfl rfl (Nat.le_of_ble_eq_true rfl) d_Model_says_187 (fun H locs hw => ?_)
              obtain ⟨g_17, hF⟩ := ifG hF
              refine r_iast (k := ((v2 + (-1)) - (1 : Int32)).toNatClampNeg) K hw (show shM[17]? = some (.inr (.inl 200)) from rfl) rfl (inB_vp g_17) d_Model_says_190 (fun s_18 f_s_18 H locs hw => ?_)
              replace hF := ltN hF f_s_18
              exact q_Model_says_191 K (fun z0 zv1 zv2 zv3 => F_Model_says_16 n z0 zv1 zv2 zv3) ih _ _ _ _ _ _ _  hw (lv_sub hl [2, 3, 0, 4] rfl) hF
            · replace hF := ifN hF c_14
              refine lv_aload_n hx hb d_Model_says_141 rfl (lv_at hl 1 rfl) ?_
              refine r_get (v := .ref (ad 17)) K hw i_Model sh_Model rfl 30 (by decide) w_1055 rfl rfl rfl d_Model_says_142 ?_
              refine lv_iload_n hx hb d_Model_says_145 rfl (lv_at hl 3 rfl) ?_
              refine lv_iconst (v := 1) hx hb d_Model_says_146 (by decide) ?_
              refine lv_isub hx hb d_Model_says_147 ?_
              refine lv_aload_n hx hb d_Model_says_148 rfl (lv_at hl 1 rfl) ?_
              refine r_get (v := .ref (ad 17)) K hw i_Model sh_Model rfl 30 (by decide) w_1055 rfl rfl rfl d_Model_says_149 ?_
              refine lv_iload_n hx hb d_Model_says_152 rfl (lv_at hl 3 rfl) ?_
              refine lv_iconst (v := 1) hx hb d_Model_says_153 (by decide) ?_
              refine lv_isub hx hb d_Model_says_154 ?_
              obtain ⟨g_19, hF⟩ := ifG hF
              refine r_iald (k := (v2 - (1 : Int32)).toNatClampNeg) K hw (show shM[17]? = some (.inr (.inl 200)) from rfl) rfl (inB_vp g_19) d_Model_says_155 ?_
              refine lv_ineg hx hb d_Model_says_156 ?_
              obtain ⟨g_20, hF⟩ := ifG hF
              refine r_iast (k := (v2 - (1 : Int32)).toNatClampNeg) K hw (show shM[17]? = some (.inr (.inl 200)) from rfl) rfl (inB_vp g_20) d_Model_says_157 (fun s_21 f_s_21 H locs hw => ?_)
              replace hF := ltN hF f_s_21
              refine lv_goto (tgt := 191) hx hb d_Model_says_158 (by decide) ?_
              exact q_Model_says_191 K (fun z0 zv1 zv2 zv3 => F_Model_says_16 n z0 zv1 zv2 zv3) ih _ _ _ _ _ _ _  hw (lv_sub hl [1, 2, 3, 4] rfl) hF
          · replace hF := ifN hF c_13
            refine lv_aload_n hx hb d_Model_says_107 rfl (lv_at hl 1 rfl) ?_
            refine r_get (v := .ref (ad 17)) K hw i_Model sh_Model rfl 30 (by decide) w_1055 rfl rfl rfl d_Model_says_108 ?_
            refine lv_iload_n hx hb d_Model_says_111 rfl (lv_at hl 3 rfl) ?_
            refine lv_iconst (v := 1) hx hb d_Model_says_112 (by decide) ?_
            refine lv_isub hx hb d_Model_says_113 ?_
            refine lv_aload_n hx hb d_Model_says_114 rfl (lv_at hl 1 rfl) ?_
            refine r_get (v := .ref (ad 17)) K hw i_Model sh_Model rfl 30 (by decide) w_1055 rfl rfl rfl d_Model_says_115 ?_
            refine lv_iload_n hx hb d_Model_says_118 rfl (lv_at hl 3 rfl) ?_
            refine lv_iconst (v := 1) hx hb d_Model_says_119 (by decide) ?_
            refine lv_isub hx hb d_Model_says_120 ?_
            obtain ⟨g_22, hF⟩ := ifG hF
            refine r_iald (k := (v2 - (1 : Int32)).toNatClampNeg) K hw (show shM[17]? = some (.inr (.inl 200)) from rfl) rfl (inB_vp g_22) d_Model_says_121 ?_
            refine lv_if_ne (tgt := 129) hx hb d_Model_says_122 (by decide) (fun c_23 => ?_) (fun c_23 => ?_)
            · replace hF := ifT hF c_23
              refine lv_iconst (v := 0) hx hb d_Model_says_129 (by decide) ?_
              exact q_Model_says_130 K (fun z0 zv1 zv2 zv3 => F_Model_says_16 n z0 zv1 zv2 zv3) ih _ _ _ _ _ _ _ _ _  hw (lv_sub hl [1, 2, 3, 4] rfl) hF
            · replace hF := ifN hF c_23
              refine lv_iconst (v := 1) hx hb d_Model_says_125 (by decide) ?_
              refine lv_goto (tgt := 130) hx hb d_Model_says_126 (by decide) ?_
              exact q_Model_says_130 K (fun z0 zv1 zv2 zv3 => F_Model_says_16 n z0 zv1 zv2 zv3) ih _ _ _ _ _ _ _ _ _  hw (lv_sub hl [1, 2, 3, 4] rfl) hF
        · replace hF := ifF hF c_12
          exact q_Model_says_66 K (fun z0 zv1 zv2 zv3 => F_Model_says_16 n z0 zv1 zv2 zv3) ih _ _ _ _ _ _ _ _  hw (lv_sub hl [1, 2, 3, 4, 0] rfl) hF
noncomputable def F_Model_says_0 (s0 : St) (v1 : Int32) : Option (Int32 × St) := (if inB (((4 : Int32) * (s0.1 0 11)) + v1) 24 = true then (lt ((s0.1 8 (((4 : Int32) * (s0.1 0 11)) + v1).toNatClampNeg)) (fun w_2 => (F_Model_says_16 FU s0 v1 (0 : Int32) w_2))) else none)
set_option maxHeartbeats 4000000 in
set_option maxRecDepth 100000 in
theorem q_Model_says_0 (K : Fx p s m args meth c b_Model_says 5 R_Model (some .int))  : ∀ (H : Heap) (locs : List Loc) (ls : Array Slot) (s0 : St) (v1 : Int32), Wh D cA ad shM A s s0 H locs → lv_has ls 5 [(0, .ref (ad 0)), (1, .int v1)] → F_Model_says_0 s0 v1 = (some (r, τ)) → W p l e rm_Model_says s m args below meth c H locs 0 0 (MQ below (QcI D cA ad shM A r τ) args s 0 0 A) (F0 m 0 ls []) := by
  have hx := K.1.1; have hb := K.1.2.1
  intro H locs ls s0 v1 hw hl hF
  unfold F_Model_says_0 at hF
  refine lv_iconst (v := 0) hx hb d_Model_says_0 (by decide) ?_
  refine lv_istore_n (lv' := [(2, .int (0 : Int32)), (0, .ref (ad 0)), (1, .int v1)]) hx hb d_Model_says_1 rfl hl (by decide) rfl (fun ls hl => ?_)
  refine lv_aload_n hx hb d_Model_says_2 rfl (lv_at hl 1 rfl) ?_
  refine r_get (v := .ref (ad 8)) K hw i_Model sh_Model rfl 9 (by decide) w_1034 rfl rfl rfl d_Model_says_3 ?_
  refine lv_iconst (v := 4) hx hb d_Model_says_6 (by decide) ?_
  refine lv_aload_n hx hb d_Model_says_7 rfl (lv_at hl 1 rfl) ?_
  refine r_get (v := .int (s0.1 0 11)) K hw i_Model sh_Model rfl 11 (by decide) w_1036 rfl rfl rfl d_Model_says_8 ?_
  refine lv_imul hx hb d_Model_says_11 ?_
  refine lv_iload_n hx hb d_Model_says_12 rfl (lv_at hl 2 rfl) ?_
  refine lv_iadd hx hb d_Model_says_13 ?_
  obtain ⟨g_1, hF⟩ := ifG hF
  refine r_iald (k := (((4 : Int32) * (s0.1 0 11)) + v1).toNatClampNeg) K hw (show shM[8]? = some (.inr (.inl 24)) from rfl) rfl (inB_vp g_1) d_Model_says_14 ?_
  refine lv_topi (fun w_2 f_w_2 => ?_)
  replace hF := ltN hF f_w_2
  refine lv_istore_n (lv' := [(3, .int w_2), (2, .int (0 : Int32)), (0, .ref (ad 0)), (1, .int v1)]) hx hb d_Model_says_15 rfl hl (by decide) rfl (fun ls hl => ?_)
  exact q_Model_says_16 K FU _ _ _ _ _ _ _  hw (lv_sub hl [2, 3, 1, 0] rfl) hF
end S_Model_says
noncomputable abbrev F_Model_says := F_Model_says_0
theorem c_Model_says {l : Launch} {D : va_G} {cA : Nat → ClassId} {ad : Nat → Nat} {s0 τ : St} {r : Int32} {v1 : Int32}  (hF : F_Model_says s0 v1 = (some (r, τ))) : MI l D cA ad shM y_Model_says (wT y_Model_says b_Model_says 5 (some .int)) rm_Model_says [.ref (ad 0), .int v1] s0 r τ := fun sz => m_start (Qc := fun A => QcI D cA ad shM A r τ) (by decide +kernel) w_1192 (Nat.le_of_ble_eq_true rfl) (fun p e s m below meth c ls K hl hw => q_Model_says_0 K _ _ _ _ _  hw hl hF)
