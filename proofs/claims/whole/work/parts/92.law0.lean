/-! ===== the calls ===== -/
section LC
variable {p : Program} {l : Launch} {e : Env} {s : State} {m : MethodId} {below : List Frame} {meth : Method} {c : Code} {H : Heap} {locs : List Loc} {Q : State → Prop} {D : va_G} {cA : Nat → ClassId} {u1 u2 : Nat → Nat} {cells slots : Nat} {ls : Array Slot} {rest : List Value} {b L k na nt : Nat} {xs : Nat → Int32} {σ μ : St}
set_option maxHeartbeats 1000000 in
theorem law_0 (K : Fx p s m #[Value.ref b] meth c code 4 R_law ret) (hC1 : Cst u1 (fun q => s.heap.size ≤ q) s s.heap) (hC2 : Cst u2 (fun q => s.heap.size ≤ q) s s.heap) (hX : va_X b L xs s s.heap) (hbl : b < s.heap.size) (hL : L ≤ 3584) (hcs : cells ≤ room_1.cells ∧ slots ≤ room_1.slots) (h : Rel σ μ na nt) (hk : k + 7 ≤ L) (kk : ∀ (H : Heap) (locs : List Loc) (ls : Array Slot) (σ' μ' : St) (na' nt' : Nat), Rel σ' μ' na' nt' → lv_has ls 4 [(3, .int (nI k)), (2, .ref (u2 0)), (1, .ref (u1 20)), (0, .ref b)] → Wn D cA (fun q => s.heap.size ≤ q) s (Wd cA u1 shC σ' ++ Wd cA u2 shM μ') H locs → W p l e room_1 s m #[Value.ref b] below meth c H locs cells slots Q (F0 m 1432 ls [])) (hl : lv_has ls 4 [(3, .int (nI k)), (2, .ref (u2 0)), (1, .ref (u1 20)), (0, .ref b)]) (hw : Wn D cA (fun q => s.heap.size ≤ q) s (Wd cA u1 shC σ ++ Wd cA u2 shM μ) H locs) : W p l e room_1 s m #[Value.ref b] below meth c H locs cells slots Q (F0 m 180 ls []) := by
  have hx := K.1.1; have hb := K.1.2.1
  have hop := op_count h (xs (k + 1))
  refine lv_aload_n hx hb d_law_180 rfl (lv_at hl 2 rfl) ?_
  refine law_arg (i := 1) K hX hbl hw.2.2.2.1 (lv_at hl 3 rfl) (lv_at hl 0 rfl) (by decide) hk hL d_law_181 d_law_182 d_law_183 d_law_184 d_law_185 rfl ?_
  refine n_WVI (ws0 := Wd cA u2 shM μ) (As := [.int (xs (k + 1))]) (rest := []) (q := 20) (sh := shC.take 50) K hw.swap hC1 hl.1 (c_Main_count (l := l) (D := D) (cA := cA) (ad := u1) (s0 := σ) (nC := 50) (Nat.le_of_ble_eq_true rfl) rfl) (sh_Main (Nat.le_of_ble_eq_true rfl)) rfl (tb_gV w_632 w_633 w_634 w_63 w_635) a_Main_count ⟨rfl, rfl, Nat.le_of_ble_eq_true rfl, Nat.le_of_ble_eq_true rfl⟩ rfl rfl (by decide) hcs d_law_186 (fun H locs hw => ?_)
  have hw : Wn D cA _ s (Wd cA u1 shC σ ++ Wd cA u2 shM μ) H locs := hw.swap
  refine lv_aload_n hx hb d_law_189 rfl (lv_at hl 1 rfl) ?_
  refine law_arg (i := 1) K hX hbl hw.2.2.2.1 (lv_at hl 3 rfl) (lv_at hl 0 rfl) (by decide) hk hL d_law_190 d_law_191 d_law_192 d_law_193 d_law_194 rfl ?_
  refine n_WVI (ws0 := Wd cA u1 shC σ) (As := [.int (xs (k + 1))]) (rest := [.int (F_Main_count σ (xs (k + 1)))]) (q := 0) K hw hC2 hl.1 (c_Model_count (l := l) (D := D) (cA := cA) (ad := u2) (s0 := μ) hop.symm) sh_Model rfl (tb_gV w_1161 w_1162 w_1163 w_80 w_1164) a_Model_count ⟨rfl, rfl, Nat.le_of_ble_eq_true rfl, Nat.le_of_ble_eq_true rfl⟩ rfl rfl (Nat.le_of_ble_eq_true rfl) hcs d_law_195 (fun H locs hw => ?_)
  refine lv_icmp_eq (tgt := 1432) hx hb d_law_198 (by decide) (fun _ => ?_) (fun z => absurd rfl z)
  exact kk _ _ _ _ _ _ _ h hl hw
set_option maxHeartbeats 1000000 in
theorem law_1 (K : Fx p s m #[Value.ref b] meth c code 4 R_law ret) (hC1 : Cst u1 (fun q => s.heap.size ≤ q) s s.heap) (hC2 : Cst u2 (fun q => s.heap.size ≤ q) s s.heap) (hX : va_X b L xs s s.heap) (hbl : b < s.heap.size) (hL : L ≤ 3584) (hcs : cells ≤ room_1.cells ∧ slots ≤ room_1.slots) (h : Rel σ μ na nt) (hk : k + 7 ≤ L) (kk : ∀ (H : Heap) (locs : List Loc) (ls : Array Slot) (σ' μ' : St) (na' nt' : Nat), Rel σ' μ' na' nt' → lv_has ls 4 [(3, .int (nI k)), (2, .ref (u2 0)), (1, .ref (u1 20)), (0, .ref b)] → Wn D cA (fun q => s.heap.size ≤ q) s (Wd cA u1 shC σ' ++ Wd cA u2 shM μ') H locs → W p l e room_1 s m #[Value.ref b] below meth c H locs cells slots Q (F0 m 1432 ls [])) (hl : lv_has ls 4 [(3, .int (nI k)), (2, .ref (u2 0)), (1, .ref (u1 20)), (0, .ref b)]) (hw : Wn D cA (fun q => s.heap.size ≤ q) s (Wd cA u1 shC σ ++ Wd cA u2 shM μ) H locs) : W p l e room_1 s m #[Value.ref b] below meth c H locs cells slots Q (F0 m 203 ls []) := by
  have hx := K.1.1; have hb := K.1.2.1
  obtain ⟨r, σ', μ', hF1, hF2, hR⟩ := op_feed h (xs (k + 1)) (xs (k + 2)) (xs (k + 3)) (xs (k + 4)) (xs (k + 5)) (xs (k + 6))
  refine lv_aload_n hx hb d_law_203 rfl (lv_at hl 2 rfl) ?_
  refine law_arg (i := 1) K hX hbl hw.2.2.2.1 (lv_at hl 3 rfl) (lv_at hl 0 rfl) (by decide) hk hL d_law_204 d_law_205 d_law_206 d_law_207 d_law_208 rfl ?_
  refine law_arg (i := 2) K hX hbl hw.2.2.2.1 (lv_at hl 3 rfl) (lv_at hl 0 rfl) (by decide) hk hL d_law_209 d_law_210 d_law_211 d_law_212 d_law_213 rfl ?_
  refine law_arg (i := 3) K hX hbl hw.2.2.2.1 (lv_at hl 3 rfl) (lv_at hl 0 rfl) (by decide) hk hL d_law_214 d_law_215 d_law_216 d_law_217 d_law_218 rfl ?_
  refine law_arg (i := 4) K hX hbl hw.2.2.2.1 (lv_at hl 3 rfl) (lv_at hl 0 rfl) (by decide) hk hL d_law_219 d_law_220 d_law_221 d_law_222 d_law_223 rfl ?_
  refine law_arg (i := 5) K hX hbl hw.2.2.2.1 (lv_at hl 3 rfl) (lv_at hl 0 rfl) (by decide) hk hL d_law_224 d_law_225 d_law_226 d_law_227 d_law_228 rfl ?_
  refine law_arg6 (i := 6) K hX hbl hw.2.2.2.1 (lv_at hl 3 rfl) (lv_at hl 0 rfl) (by decide) hk hL d_law_229 d_law_230 d_law_231 d_law_233 d_law_234 ?_
  refine n_WVI (ws0 := Wd cA u2 shM μ) (As := [.int (xs (k + 1)), .int (xs (k + 2)), .int (xs (k + 3)), .int (xs (k + 4)), .int (xs (k + 5)), .int (xs (k + 6))]) (rest := []) (q := 20) (sh := shC.take 50) K hw.swap hC1 hl.1 (c_Main_feed (l := l) (D := D) (cA := cA) (ad := u1) (s0 := σ) (nC := 50) (Nat.le_of_ble_eq_true rfl) hF1) (sh_Main (Nat.le_of_ble_eq_true rfl)) rfl (tb_gV w_636 w_637 w_638 w_63 w_639) a_Main_feed ⟨rfl, rfl, Nat.le_of_ble_eq_true rfl, Nat.le_of_ble_eq_true rfl⟩ rfl rfl (by decide) hcs d_law_235 (fun H locs hw => ?_)
  have hw : Wn D cA _ s (Wd cA u1 shC σ' ++ Wd cA u2 shM μ) H locs := hw.swap
  refine lv_aload_n hx hb d_law_238 rfl (lv_at hl 1 rfl) ?_
  refine law_arg (i := 1) K hX hbl hw.2.2.2.1 (lv_at hl 3 rfl) (lv_at hl 0 rfl) (by decide) hk hL d_law_239 d_law_240 d_law_241 d_law_242 d_law_243 rfl ?_
  refine law_arg (i := 2) K hX hbl hw.2.2.2.1 (lv_at hl 3 rfl) (lv_at hl 0 rfl) (by decide) hk hL d_law_244 d_law_245 d_law_246 d_law_247 d_law_248 rfl ?_
  refine law_arg (i := 3) K hX hbl hw.2.2.2.1 (lv_at hl 3 rfl) (lv_at hl 0 rfl) (by decide) hk hL d_law_249 d_law_250 d_law_251 d_law_252 d_law_253 rfl ?_
  refine law_arg (i := 4) K hX hbl hw.2.2.2.1 (lv_at hl 3 rfl) (lv_at hl 0 rfl) (by decide) hk hL d_law_254 d_law_255 d_law_256 d_law_257 d_law_258 rfl ?_
  refine law_arg (i := 5) K hX hbl hw.2.2.2.1 (lv_at hl 3 rfl) (lv_at hl 0 rfl) (by decide) hk hL d_law_259 d_law_260 d_law_261 d_law_262 d_law_263 rfl ?_
  refine law_arg6 (i := 6) K hX hbl hw.2.2.2.1 (lv_at hl 3 rfl) (lv_at hl 0 rfl) (by decide) hk hL d_law_264 d_law_265 d_law_266 d_law_268 d_law_269 ?_
  refine n_WVI (ws0 := Wd cA u1 shC σ') (As := [.int (xs (k + 1)), .int (xs (k + 2)), .int (xs (k + 3)), .int (xs (k + 4)), .int (xs (k + 5)), .int (xs (k + 6))]) (rest := [.int r]) (q := 0) K hw hC2 hl.1 (c_Model_feed (l := l) (D := D) (cA := cA) (ad := u2) (s0 := μ) hF2) sh_Model rfl (tb_gV w_1165 w_1166 w_1167 w_80 w_1168) a_Model_feed ⟨rfl, rfl, Nat.le_of_ble_eq_true rfl, Nat.le_of_ble_eq_true rfl⟩ rfl rfl (Nat.le_of_ble_eq_true rfl) hcs d_law_270 (fun H locs hw => ?_)
  refine lv_icmp_eq (tgt := 1432) hx hb d_law_273 (by decide) (fun _ => ?_) (fun z => absurd rfl z)
  exact kk _ _ _ _ _ _ _ hR hl hw
set_option maxHeartbeats 1000000 in
theorem law_2 (K : Fx p s m #[Value.ref b] meth c code 4 R_law ret) (hC1 : Cst u1 (fun q => s.heap.size ≤ q) s s.heap) (hC2 : Cst u2 (fun q => s.heap.size ≤ q) s s.heap) (hX : va_X b L xs s s.heap) (hbl : b < s.heap.size) (hL : L ≤ 3584) (hcs : cells ≤ room_1.cells ∧ slots ≤ room_1.slots) (h : Rel σ μ na nt) (hk : k + 7 ≤ L) (kk : ∀ (H : Heap) (locs : List Loc) (ls : Array Slot) (σ' μ' : St) (na' nt' : Nat), Rel σ' μ' na' nt' → lv_has ls 4 [(3, .int (nI k)), (2, .ref (u2 0)), (1, .ref (u1 20)), (0, .ref b)] → Wn D cA (fun q => s.heap.size ≤ q) s (Wd cA u1 shC σ' ++ Wd cA u2 shM μ') H locs → W p l e room_1 s m #[Value.ref b] below meth c H locs cells slots Q (F0 m 1432 ls [])) (hl : lv_has ls 4 [(3, .int (nI k)), (2, .ref (u2 0)), (1, .ref (u1 20)), (0, .ref b)]) (hw : Wn D cA (fun q => s.heap.size ≤ q) s (Wd cA u1 shC σ ++ Wd cA u2 shM μ) H locs) : W p l e room_1 s m #[Value.ref b] below meth c H locs cells slots Q (F0 m 278 ls []) := by
  have hx := K.1.1; have hb := K.1.2.1
  obtain ⟨r, σ', μ', nt', hF1, hF2, hR⟩ := op_text h
  refine lv_aload_n hx hb d_law_278 rfl (lv_at hl 2 rfl) ?_
  refine n_WVI (ws0 := Wd cA u2 shM μ) (As := []) (rest := []) (q := 20) (sh := shC.take 50) K hw.swap hC1 hl.1 (c_Main_text (l := l) (D := D) (cA := cA) (ad := u1) (s0 := σ) (nC := 50) (Nat.le_of_ble_eq_true rfl) hF1) (sh_Main (Nat.le_of_ble_eq_true rfl)) rfl (tb_gV w_644 w_645 w_646 w_63 w_647) a_Main_text ⟨rfl, rfl, Nat.le_of_ble_eq_true rfl, Nat.le_of_ble_eq_true rfl⟩ rfl rfl (by decide) hcs d_law_279 (fun H locs hw => ?_)
  have hw : Wn D cA _ s (Wd cA u1 shC σ' ++ Wd cA u2 shM μ) H locs := hw.swap
  refine lv_aload_n hx hb d_law_282 rfl (lv_at hl 1 rfl) ?_
  refine n_WVI (ws0 := Wd cA u1 shC σ') (As := []) (rest := [.int r]) (q := 0) K hw hC2 hl.1 (c_Model_text (l := l) (D := D) (cA := cA) (ad := u2) (s0 := μ) hF2) sh_Model rfl (tb_gV w_1172 w_979 w_980 w_80 w_981) a_Model_text ⟨rfl, rfl, Nat.le_of_ble_eq_true rfl, Nat.le_of_ble_eq_true rfl⟩ rfl rfl (Nat.le_of_ble_eq_true rfl) hcs d_law_283 (fun H locs hw => ?_)
  refine lv_icmp_eq (tgt := 1432) hx hb d_law_286 (by decide) (fun _ => ?_) (fun z => absurd rfl z)
  exact kk _ _ _ _ _ _ _ hR hl hw
set_option maxHeartbeats 1000000 in
theorem law_3 (K : Fx p s m #[Value.ref b] meth c code 4 R_law ret) (hC1 : Cst u1 (fun q => s.heap.size ≤ q) s s.heap) (hC2 : Cst u2 (fun q => s.heap.size ≤ q) s s.heap) (hX : va_X b L xs s s.heap) (hbl : b < s.heap.size) (hL : L ≤ 3584) (hcs : cells ≤ room_1.cells ∧ slots ≤ room_1.slots) (h : Rel σ μ na nt) (hk : k + 7 ≤ L) (kk : ∀ (H : Heap) (locs : List Loc) (ls : Array Slot) (σ' μ' : St) (na' nt' : Nat), Rel σ' μ' na' nt' → lv_has ls 4 [(3, .int (nI k)), (2, .ref (u2 0)), (1, .ref (u1 20)), (0, .ref b)] → Wn D cA (fun q => s.heap.size ≤ q) s (Wd cA u1 shC σ' ++ Wd cA u2 shM μ') H locs → W p l e room_1 s m #[Value.ref b] below meth c H locs cells slots Q (F0 m 1432 ls [])) (hl : lv_has ls 4 [(3, .int (nI k)), (2, .ref (u2 0)), (1, .ref (u1 20)), (0, .ref b)]) (hw : Wn D cA (fun q => s.heap.size ≤ q) s (Wd cA u1 shC σ ++ Wd cA u2 shM μ) H locs) : W p l e room_1 s m #[Value.ref b] below meth c H locs cells slots Q (F0 m 291 ls []) := by
  have hx := K.1.1; have hb := K.1.2.1
  obtain ⟨r, σ', μ', hF1, hF2, hR⟩ := op_force h (xs (k + 1))
  refine lv_aload_n hx hb d_law_291 rfl (lv_at hl 2 rfl) ?_
  refine law_arg (i := 1) K hX hbl hw.2.2.2.1 (lv_at hl 3 rfl) (lv_at hl 0 rfl) (by decide) hk hL d_law_292 d_law_293 d_law_294 d_law_295 d_law_296 rfl ?_
  refine n_WVI (ws0 := Wd cA u2 shM μ) (As := [.int (xs (k + 1))]) (rest := []) (q := 20) (sh := shC.take 50) K hw.swap hC1 hl.1 (c_Main_force (l := l) (D := D) (cA := cA) (ad := u1) (s0 := σ) (nC := 50) (Nat.le_of_ble_eq_true rfl) hF1) (sh_Main (Nat.le_of_ble_eq_true rfl)) rfl (tb_gV w_648 w_649 w_650 w_63 w_651) a_Main_force ⟨rfl, rfl, Nat.le_of_ble_eq_true rfl, Nat.le_of_ble_eq_true rfl⟩ rfl rfl (by decide) hcs d_law_297 (fun H locs hw => ?_)
  have hw : Wn D cA _ s (Wd cA u1 shC σ' ++ Wd cA u2 shM μ) H locs := hw.swap
  refine lv_aload_n hx hb d_law_300 rfl (lv_at hl 1 rfl) ?_
  refine law_arg (i := 1) K hX hbl hw.2.2.2.1 (lv_at hl 3 rfl) (lv_at hl 0 rfl) (by decide) hk hL d_law_301 d_law_302 d_law_303 d_law_304 d_law_305 rfl ?_
  refine n_WVI (ws0 := Wd cA u1 shC σ') (As := [.int (xs (k + 1))]) (rest := [.int r]) (q := 0) K hw hC2 hl.1 (c_Model_force (l := l) (D := D) (cA := cA) (ad := u2) (s0 := μ) hF2) sh_Model rfl (tb_gV w_1173 w_1174 w_1175 w_80 w_1176) a_Model_force ⟨rfl, rfl, Nat.le_of_ble_eq_true rfl, Nat.le_of_ble_eq_true rfl⟩ rfl rfl (Nat.le_of_ble_eq_true rfl) hcs d_law_306 (fun H locs hw => ?_)
  refine lv_icmp_eq (tgt := 1432) hx hb d_law_309 (by decide) (fun _ => ?_) (fun z => absurd rfl z)
  exact kk _ _ _ _ _ _ _ hR hl hw
set_option maxHeartbeats 1000000 in
theorem law_4 (K : Fx p s m #[Value.ref b] meth c code 4 R_law ret) (hC1 : Cst u1 (fun q => s.heap.size ≤ q) s s.heap) (hC2 : Cst u2 (fun q => s.heap.size ≤ q) s s.heap) (hX : va_X b L xs s s.heap) (hbl : b < s.heap.size) (hL : L ≤ 3584) (hcs : cells ≤ room_1.cells ∧ slots ≤ room_1.slots) (h : Rel σ μ na nt) (hk : k + 7 ≤ L) (kk : ∀ (H : Heap) (locs : List Loc) (ls : Array Slot) (σ' μ' : St) (na' nt' : Nat), Rel σ' μ' na' nt' → lv_has ls 4 [(3, .int (nI k)), (2, .ref (u2 0)), (1, .ref (u1 20)), (0, .ref b)] → Wn D cA (fun q => s.heap.size ≤ q) s (Wd cA u1 shC σ' ++ Wd cA u2 shM μ') H locs → W p l e room_1 s m #[Value.ref b] below meth c H locs cells slots Q (F0 m 1432 ls [])) (hl : lv_has ls 4 [(3, .int (nI k)), (2, .ref (u2 0)), (1, .ref (u1 20)), (0, .ref b)]) (hw : Wn D cA (fun q => s.heap.size ≤ q) s (Wd cA u1 shC σ ++ Wd cA u2 shM μ) H locs) : W p l e room_1 s m #[Value.ref b] below meth c H locs cells slots Q (F0 m 314 ls []) := by
  have hx := K.1.1; have hb := K.1.2.1
  obtain ⟨r, σ', μ', hF1, hF2, hR⟩ := op_asks h (xs (k + 1)) (xs (k + 2)) (xs (k + 3)) (xs (k + 4)) (xs (k + 5))
  refine lv_aload_n hx hb d_law_314 rfl (lv_at hl 2 rfl) ?_
  refine law_arg (i := 1) K hX hbl hw.2.2.2.1 (lv_at hl 3 rfl) (lv_at hl 0 rfl) (by decide) hk hL d_law_315 d_law_316 d_law_317 d_law_318 d_law_319 rfl ?_
  refine law_arg (i := 2) K hX hbl hw.2.2.2.1 (lv_at hl 3 rfl) (lv_at hl 0 rfl) (by decide) hk hL d_law_320 d_law_321 d_law_322 d_law_323 d_law_324 rfl ?_
  refine law_arg (i := 3) K hX hbl hw.2.2.2.1 (lv_at hl 3 rfl) (lv_at hl 0 rfl) (by decide) hk hL d_law_325 d_law_326 d_law_327 d_law_328 d_law_329 rfl ?_
  refine law_arg (i := 4) K hX hbl hw.2.2.2.1 (lv_at hl 3 rfl) (lv_at hl 0 rfl) (by decide) hk hL d_law_330 d_law_331 d_law_332 d_law_333 d_law_334 rfl ?_
  refine law_arg (i := 5) K hX hbl hw.2.2.2.1 (lv_at hl 3 rfl) (lv_at hl 0 rfl) (by decide) hk hL d_law_335 d_law_336 d_law_337 d_law_338 d_law_339 rfl ?_
  refine n_WVI (ws0 := Wd cA u2 shM μ) (As := [.int (xs (k + 1)), .int (xs (k + 2)), .int (xs (k + 3)), .int (xs (k + 4)), .int (xs (k + 5))]) (rest := []) (q := 20) (sh := shC.take 50) K hw.swap hC1 hl.1 (c_Main_asks (l := l) (D := D) (cA := cA) (ad := u1) (s0 := σ) (nC := 50) (Nat.le_of_ble_eq_true rfl) hF1) (sh_Main (Nat.le_of_ble_eq_true rfl)) rfl (tb_gV w_652 w_653 w_654 w_63 w_655) a_Main_asks ⟨rfl, rfl, Nat.le_of_ble_eq_true rfl, Nat.le_of_ble_eq_true rfl⟩ rfl rfl (by decide) hcs d_law_340 (fun H locs hw => ?_)
  have hw : Wn D cA _ s (Wd cA u1 shC σ' ++ Wd cA u2 shM μ) H locs := hw.swap
  refine lv_aload_n hx hb d_law_343 rfl (lv_at hl 1 rfl) ?_
  refine law_arg (i := 1) K hX hbl hw.2.2.2.1 (lv_at hl 3 rfl) (lv_at hl 0 rfl) (by decide) hk hL d_law_344 d_law_345 d_law_346 d_law_347 d_law_348 rfl ?_
  refine law_arg (i := 2) K hX hbl hw.2.2.2.1 (lv_at hl 3 rfl) (lv_at hl 0 rfl) (by decide) hk hL d_law_349 d_law_350 d_law_351 d_law_352 d_law_353 rfl ?_
  refine law_arg (i := 3) K hX hbl hw.2.2.2.1 (lv_at hl 3 rfl) (lv_at hl 0 rfl) (by decide) hk hL d_law_354 d_law_355 d_law_356 d_law_357 d_law_358 rfl ?_
  refine law_arg (i := 4) K hX hbl hw.2.2.2.1 (lv_at hl 3 rfl) (lv_at hl 0 rfl) (by decide) hk hL d_law_359 d_law_360 d_law_361 d_law_362 d_law_363 rfl ?_
  refine law_arg (i := 5) K hX hbl hw.2.2.2.1 (lv_at hl 3 rfl) (lv_at hl 0 rfl) (by decide) hk hL d_law_364 d_law_365 d_law_366 d_law_367 d_law_368 rfl ?_
  refine n_WVI (ws0 := Wd cA u1 shC σ') (As := [.int (xs (k + 1)), .int (xs (k + 2)), .int (xs (k + 3)), .int (xs (k + 4)), .int (xs (k + 5))]) (rest := [.int r]) (q := 0) K hw hC2 hl.1 (c_Model_asks (l := l) (D := D) (cA := cA) (ad := u2) (s0 := μ) hF2) sh_Model rfl (tb_gV w_1177 w_1178 w_1179 w_80 w_1180) a_Model_asks ⟨rfl, rfl, Nat.le_of_ble_eq_true rfl, Nat.le_of_ble_eq_true rfl⟩ rfl rfl (Nat.le_of_ble_eq_true rfl) hcs d_law_369 (fun H locs hw => ?_)
  refine lv_icmp_eq (tgt := 1432) hx hb d_law_372 (by decide) (fun _ => ?_) (fun z => absurd rfl z)
  exact kk _ _ _ _ _ _ _ hR hl hw
set_option maxHeartbeats 1000000 in
theorem law_5 (K : Fx p s m #[Value.ref b] meth c code 4 R_law ret) (hC1 : Cst u1 (fun q => s.heap.size ≤ q) s s.heap) (hC2 : Cst u2 (fun q => s.heap.size ≤ q) s s.heap) (hX : va_X b L xs s s.heap) (hbl : b < s.heap.size) (hL : L ≤ 3584) (hcs : cells ≤ room_1.cells ∧ slots ≤ room_1.slots) (h : Rel σ μ na nt) (hk : k + 7 ≤ L) (kk : ∀ (H : Heap) (locs : List Loc) (ls : Array Slot) (σ' μ' : St) (na' nt' : Nat), Rel σ' μ' na' nt' → lv_has ls 4 [(3, .int (nI k)), (2, .ref (u2 0)), (1, .ref (u1 20)), (0, .ref b)] → Wn D cA (fun q => s.heap.size ≤ q) s (Wd cA u1 shC σ' ++ Wd cA u2 shM μ') H locs → W p l e room_1 s m #[Value.ref b] below meth c H locs cells slots Q (F0 m 1432 ls [])) (hl : lv_has ls 4 [(3, .int (nI k)), (2, .ref (u2 0)), (1, .ref (u1 20)), (0, .ref b)]) (hw : Wn D cA (fun q => s.heap.size ≤ q) s (Wd cA u1 shC σ ++ Wd cA u2 shM μ) H locs) : W p l e room_1 s m #[Value.ref b] below meth c H locs cells slots Q (F0 m 377 ls []) := by
  have hx := K.1.1; have hb := K.1.2.1
  obtain ⟨r, σ', μ', na', hF1, hF2, hR⟩ := op_arm h (xs (k + 1)) (xs (k + 2)) (xs (k + 3))
  refine lv_aload_n hx hb d_law_377 rfl (lv_at hl 2 rfl) ?_
  refine law_arg (i := 1) K hX hbl hw.2.2.2.1 (lv_at hl 3 rfl) (lv_at hl 0 rfl) (by decide) hk hL d_law_378 d_law_379 d_law_380 d_law_381 d_law_382 rfl ?_
  refine law_arg (i := 2) K hX hbl hw.2.2.2.1 (lv_at hl 3 rfl) (lv_at hl 0 rfl) (by decide) hk hL d_law_383 d_law_384 d_law_385 d_law_386 d_law_387 rfl ?_
  refine law_arg (i := 3) K hX hbl hw.2.2.2.1 (lv_at hl 3 rfl) (lv_at hl 0 rfl) (by decide) hk hL d_law_388 d_law_389 d_law_390 d_law_391 d_law_392 rfl ?_
  refine n_WVI (ws0 := Wd cA u2 shM μ) (As := [.int (xs (k + 1)), .int (xs (k + 2)), .int (xs (k + 3))]) (rest := []) (q := 20) (sh := shC.take 50) K hw.swap hC1 hl.1 (c_Main_arm (l := l) (D := D) (cA := cA) (ad := u1) (s0 := σ) (nC := 50) (Nat.le_of_ble_eq_true rfl) hF1) (sh_Main (Nat.le_of_ble_eq_true rfl)) rfl (tb_gV w_685 w_686 w_687 w_63 w_688) a_Main_arm ⟨rfl, rfl, Nat.le_of_ble_eq_true rfl, Nat.le_of_ble_eq_true rfl⟩ rfl rfl (by decide) hcs d_law_393 (fun H locs hw => ?_)
  have hw : Wn D cA _ s (Wd cA u1 shC σ' ++ Wd cA u2 shM μ) H locs := hw.swap
  refine lv_aload_n hx hb d_law_396 rfl (lv_at hl 1 rfl) ?_
  refine law_arg (i := 1) K hX hbl hw.2.2.2.1 (lv_at hl 3 rfl) (lv_at hl 0 rfl) (by decide) hk hL d_law_397 d_law_398 d_law_399 d_law_400 d_law_401 rfl ?_
  refine law_arg (i := 2) K hX hbl hw.2.2.2.1 (lv_at hl 3 rfl) (lv_at hl 0 rfl) (by decide) hk hL d_law_402 d_law_403 d_law_404 d_law_405 d_law_406 rfl ?_
  refine law_arg (i := 3) K hX hbl hw.2.2.2.1 (lv_at hl 3 rfl) (lv_at hl 0 rfl) (by decide) hk hL d_law_407 d_law_408 d_law_409 d_law_410 d_law_411 rfl ?_
  refine n_WVI (ws0 := Wd cA u1 shC σ') (As := [.int (xs (k + 1)), .int (xs (k + 2)), .int (xs (k + 3))]) (rest := [.int r]) (q := 0) K hw hC2 hl.1 (c_Model_arm (l := l) (D := D) (cA := cA) (ad := u2) (s0 := μ) hF2) sh_Model rfl (tb_gV w_1199 w_1200 w_1201 w_80 w_1202) a_Model_arm ⟨rfl, rfl, Nat.le_of_ble_eq_true rfl, Nat.le_of_ble_eq_true rfl⟩ rfl rfl (Nat.le_of_ble_eq_true rfl) hcs d_law_412 (fun H locs hw => ?_)
  refine lv_icmp_eq (tgt := 1432) hx hb d_law_415 (by decide) (fun _ => ?_) (fun z => absurd rfl z)
  exact kk _ _ _ _ _ _ _ hR hl hw
set_option maxHeartbeats 1000000 in
theorem law_6 (K : Fx p s m #[Value.ref b] meth c code 4 R_law ret) (hC1 : Cst u1 (fun q => s.heap.size ≤ q) s s.heap) (hC2 : Cst u2 (fun q => s.heap.size ≤ q) s s.heap) (hX : va_X b L xs s s.heap) (hbl : b < s.heap.size) (hL : L ≤ 3584) (hcs : cells ≤ room_1.cells ∧ slots ≤ room_1.slots) (h : Rel σ μ na nt) (hk : k + 7 ≤ L) (kk : ∀ (H : Heap) (locs : List Loc) (ls : Array Slot) (σ' μ' : St) (na' nt' : Nat), Rel σ' μ' na' nt' → lv_has ls 4 [(3, .int (nI k)), (2, .ref (u2 0)), (1, .ref (u1 20)), (0, .ref b)] → Wn D cA (fun q => s.heap.size ≤ q) s (Wd cA u1 shC σ' ++ Wd cA u2 shM μ') H locs → W p l e room_1 s m #[Value.ref b] below meth c H locs cells slots Q (F0 m 1432 ls [])) (hl : lv_has ls 4 [(3, .int (nI k)), (2, .ref (u2 0)), (1, .ref (u1 20)), (0, .ref b)]) (hw : Wn D cA (fun q => s.heap.size ≤ q) s (Wd cA u1 shC σ ++ Wd cA u2 shM μ) H locs) : W p l e room_1 s m #[Value.ref b] below meth c H locs cells slots Q (F0 m 420 ls []) := by
  have hx := K.1.1; have hb := K.1.2.1
  obtain ⟨r, σ', μ', hF1, hF2, hR⟩ := op_set h (xs (k + 1)) (xs (k + 2)) (xs (k + 3))
  refine lv_aload_n hx hb d_law_420 rfl (lv_at hl 2 rfl) ?_
  refine law_arg (i := 1) K hX hbl hw.2.2.2.1 (lv_at hl 3 rfl) (lv_at hl 0 rfl) (by decide) hk hL d_law_421 d_law_422 d_law_423 d_law_424 d_law_425 rfl ?_
  refine law_arg (i := 2) K hX hbl hw.2.2.2.1 (lv_at hl 3 rfl) (lv_at hl 0 rfl) (by decide) hk hL d_law_426 d_law_427 d_law_428 d_law_429 d_law_430 rfl ?_
  refine law_arg (i := 3) K hX hbl hw.2.2.2.1 (lv_at hl 3 rfl) (lv_at hl 0 rfl) (by decide) hk hL d_law_431 d_law_432 d_law_433 d_law_434 d_law_435 rfl ?_
  refine n_WVI (ws0 := Wd cA u2 shM μ) (As := [.int (xs (k + 1)), .int (xs (k + 2)), .int (xs (k + 3))]) (rest := []) (q := 20) (sh := shC.take 50) K hw.swap hC1 hl.1 (c_Main_set (l := l) (D := D) (cA := cA) (ad := u1) (s0 := σ) (nC := 50) (Nat.le_of_ble_eq_true rfl) hF1) (sh_Main (Nat.le_of_ble_eq_true rfl)) rfl (tb_gV w_705 w_706 w_707 w_63 w_708) a_Main_set ⟨rfl, rfl, Nat.le_of_ble_eq_true rfl, Nat.le_of_ble_eq_true rfl⟩ rfl rfl (by decide) hcs d_law_436 (fun H locs hw => ?_)
  have hw : Wn D cA _ s (Wd cA u1 shC σ' ++ Wd cA u2 shM μ) H locs := hw.swap
  refine lv_aload_n hx hb d_law_439 rfl (lv_at hl 1 rfl) ?_
  refine law_arg (i := 1) K hX hbl hw.2.2.2.1 (lv_at hl 3 rfl) (lv_at hl 0 rfl) (by decide) hk hL d_law_440 d_law_441 d_law_442 d_law_443 d_law_444 rfl ?_
  refine law_arg (i := 2) K hX hbl hw.2.2.2.1 (lv_at hl 3 rfl) (lv_at hl 0 rfl) (by decide) hk hL d_law_445 d_law_446 d_law_447 d_law_448 d_law_449 rfl ?_
  refine law_arg (i := 3) K hX hbl hw.2.2.2.1 (lv_at hl 3 rfl) (lv_at hl 0 rfl) (by decide) hk hL d_law_450 d_law_451 d_law_452 d_law_453 d_law_454 rfl ?_
  refine n_WVI (ws0 := Wd cA u1 shC σ') (As := [.int (xs (k + 1)), .int (xs (k + 2)), .int (xs (k + 3))]) (rest := [.int r]) (q := 0) K hw hC2 hl.1 (c_Model_set (l := l) (D := D) (cA := cA) (ad := u2) (s0 := μ) hF2) sh_Model rfl (tb_gV w_1203 w_1204 w_1205 w_80 w_1206) a_Model_set ⟨rfl, rfl, Nat.le_of_ble_eq_true rfl, Nat.le_of_ble_eq_true rfl⟩ rfl rfl (Nat.le_of_ble_eq_true rfl) hcs d_law_455 (fun H locs hw => ?_)
  refine lv_icmp_eq (tgt := 1432) hx hb d_law_458 (by decide) (fun _ => ?_) (fun z => absurd rfl z)
  exact kk _ _ _ _ _ _ _ hR hl hw
set_option maxHeartbeats 1000000 in
theorem law_7 (K : Fx p s m #[Value.ref b] meth c code 4 R_law ret) (hC1 : Cst u1 (fun q => s.heap.size ≤ q) s s.heap) (hC2 : Cst u2 (fun q => s.heap.size ≤ q) s s.heap) (hX : va_X b L xs s s.heap) (hbl : b < s.heap.size) (hL : L ≤ 3584) (hcs : cells ≤ room_1.cells ∧ slots ≤ room_1.slots) (h : Rel σ μ na nt) (hk : k + 7 ≤ L) (kk : ∀ (H : Heap) (locs : List Loc) (ls : Array Slot) (σ' μ' : St) (na' nt' : Nat), Rel σ' μ' na' nt' → lv_has ls 4 [(3, .int (nI k)), (2, .ref (u2 0)), (1, .ref (u1 20)), (0, .ref b)] → Wn D cA (fun q => s.heap.size ≤ q) s (Wd cA u1 shC σ' ++ Wd cA u2 shM μ') H locs → W p l e room_1 s m #[Value.ref b] below meth c H locs cells slots Q (F0 m 1432 ls [])) (hl : lv_has ls 4 [(3, .int (nI k)), (2, .ref (u2 0)), (1, .ref (u1 20)), (0, .ref b)]) (hw : Wn D cA (fun q => s.heap.size ≤ q) s (Wd cA u1 shC σ ++ Wd cA u2 shM μ) H locs) : W p l e room_1 s m #[Value.ref b] below meth c H locs cells slots Q (F0 m 463 ls []) := by
  have hx := K.1.1; have hb := K.1.2.1
  obtain ⟨r, hF1, hF2⟩ := op_told h (xs (k + 1)) (xs (k + 2))
  refine lv_aload_n hx hb d_law_463 rfl (lv_at hl 2 rfl) ?_
  refine law_arg (i := 1) K hX hbl hw.2.2.2.1 (lv_at hl 3 rfl) (lv_at hl 0 rfl) (by decide) hk hL d_law_464 d_law_465 d_law_466 d_law_467 d_law_468 rfl ?_
  refine law_arg (i := 2) K hX hbl hw.2.2.2.1 (lv_at hl 3 rfl) (lv_at hl 0 rfl) (by decide) hk hL d_law_469 d_law_470 d_law_471 d_law_472 d_law_473 rfl ?_
  refine n_WVI (ws0 := Wd cA u2 shM μ) (As := [.int (xs (k + 1)), .int (xs (k + 2))]) (rest := []) (q := 20) (sh := shC.take 50) K hw.swap hC1 hl.1 (c_Main_told (l := l) (D := D) (cA := cA) (ad := u1) (s0 := σ) (nC := 50) (Nat.le_of_ble_eq_true rfl) hF1) (sh_Main (Nat.le_of_ble_eq_true rfl)) rfl (tb_gV w_712 w_713 w_714 w_63 w_715) a_Main_told ⟨rfl, rfl, Nat.le_of_ble_eq_true rfl, Nat.le_of_ble_eq_true rfl⟩ rfl rfl (by decide) hcs d_law_474 (fun H locs hw => ?_)
  have hw : Wn D cA _ s (Wd cA u1 shC σ ++ Wd cA u2 shM μ) H locs := hw.swap
  refine lv_aload_n hx hb d_law_477 rfl (lv_at hl 1 rfl) ?_
  refine law_arg (i := 1) K hX hbl hw.2.2.2.1 (lv_at hl 3 rfl) (lv_at hl 0 rfl) (by decide) hk hL d_law_478 d_law_479 d_law_480 d_law_481 d_law_482 rfl ?_
  refine law_arg (i := 2) K hX hbl hw.2.2.2.1 (lv_at hl 3 rfl) (lv_at hl 0 rfl) (by decide) hk hL d_law_483 d_law_484 d_law_485 d_law_486 d_law_487 rfl ?_
  refine n_WVI (ws0 := Wd cA u1 shC σ) (As := [.int (xs (k + 1)), .int (xs (k + 2))]) (rest := [.int r]) (q := 0) K hw hC2 hl.1 (c_Model_told (l := l) (D := D) (cA := cA) (ad := u2) (s0 := μ) hF2) sh_Model rfl (tb_gV w_1210 w_1211 w_1212 w_80 w_1213) a_Model_told ⟨rfl, rfl, Nat.le_of_ble_eq_true rfl, Nat.le_of_ble_eq_true rfl⟩ rfl rfl (Nat.le_of_ble_eq_true rfl) hcs d_law_488 (fun H locs hw => ?_)
  refine lv_icmp_eq (tgt := 1432) hx hb d_law_491 (by decide) (fun _ => ?_) (fun z => absurd rfl z)
  exact kk _ _ _ _ _ _ _ h hl hw
set_option maxHeartbeats 1000000 in
theorem law_8 (K : Fx p s m #[Value.ref b] meth c code 4 R_law ret) (hC1 : Cst u1 (fun q => s.heap.size ≤ q) s s.heap) (hC2 : Cst u2 (fun q => s.heap.size ≤ q) s s.heap) (hX : va_X b L xs s s.heap) (hbl : b < s.heap.size) (hL : L ≤ 3584) (hcs : cells ≤ room_1.cells ∧ slots ≤ room_1.slots) (h : Rel σ μ na nt) (hk : k + 7 ≤ L) (kk : ∀ (H : Heap) (locs : List Loc) (ls : Array Slot) (σ' μ' : St) (na' nt' : Nat), Rel σ' μ' na' nt' → lv_has ls 4 [(3, .int (nI k)), (2, .ref (u2 0)), (1, .ref (u1 20)), (0, .ref b)] → Wn D cA (fun q => s.heap.size ≤ q) s (Wd cA u1 shC σ' ++ Wd cA u2 shM μ') H locs → W p l e room_1 s m #[Value.ref b] below meth c H locs cells slots Q (F0 m 1432 ls [])) (hl : lv_has ls 4 [(3, .int (nI k)), (2, .ref (u2 0)), (1, .ref (u1 20)), (0, .ref b)]) (hw : Wn D cA (fun q => s.heap.size ≤ q) s (Wd cA u1 shC σ ++ Wd cA u2 shM μ) H locs) : W p l e room_1 s m #[Value.ref b] below meth c H locs cells slots Q (F0 m 496 ls []) := by
  have hx := K.1.1; have hb := K.1.2.1
  obtain ⟨r, σ', μ', hF1, hF2, hR⟩ := op_match h (xs (k + 1)) (xs (k + 2)) (xs (k + 3))
  refine lv_aload_n hx hb d_law_496 rfl (lv_at hl 2 rfl) ?_
  refine law_arg (i := 1) K hX hbl hw.2.2.2.1 (lv_at hl 3 rfl) (lv_at hl 0 rfl) (by decide) hk hL d_law_497 d_law_498 d_law_499 d_law_500 d_law_501 rfl ?_
  refine law_arg (i := 2) K hX hbl hw.2.2.2.1 (lv_at hl 3 rfl) (lv_at hl 0 rfl) (by decide) hk hL d_law_502 d_law_503 d_law_504 d_law_505 d_law_506 rfl ?_
  refine law_arg (i := 3) K hX hbl hw.2.2.2.1 (lv_at hl 3 rfl) (lv_at hl 0 rfl) (by decide) hk hL d_law_507 d_law_508 d_law_509 d_law_510 d_law_511 rfl ?_
  refine n_WVI (ws0 := Wd cA u2 shM μ) (As := [.int (xs (k + 1)), .int (xs (k + 2)), .int (xs (k + 3))]) (rest := []) (q := 20) (sh := shC.take 50) K hw.swap hC1 hl.1 (c_Main_match (l := l) (D := D) (cA := cA) (ad := u1) (s0 := σ) (nC := 50) (Nat.le_of_ble_eq_true rfl) hF1) (sh_Main (Nat.le_of_ble_eq_true rfl)) rfl (tb_gV w_716 w_717 w_718 w_63 w_719) a_Main_match ⟨rfl, rfl, Nat.le_of_ble_eq_true rfl, Nat.le_of_ble_eq_true rfl⟩ rfl rfl (by decide) hcs d_law_512 (fun H locs hw => ?_)
  have hw : Wn D cA _ s (Wd cA u1 shC σ' ++ Wd cA u2 shM μ) H locs := hw.swap
  refine lv_aload_n hx hb d_law_515 rfl (lv_at hl 1 rfl) ?_
  refine law_arg (i := 1) K hX hbl hw.2.2.2.1 (lv_at hl 3 rfl) (lv_at hl 0 rfl) (by decide) hk hL d_law_516 d_law_517 d_law_518 d_law_519 d_law_520 rfl ?_
  refine law_arg (i := 2) K hX hbl hw.2.2.2.1 (lv_at hl 3 rfl) (lv_at hl 0 rfl) (by decide) hk hL d_law_521 d_law_522 d_law_523 d_law_524 d_law_525 rfl ?_
  refine law_arg (i := 3) K hX hbl hw.2.2.2.1 (lv_at hl 3 rfl) (lv_at hl 0 rfl) (by decide) hk hL d_law_526 d_law_527 d_law_528 d_law_529 d_law_530 rfl ?_
  refine n_WVI (ws0 := Wd cA u1 shC σ') (As := [.int (xs (k + 1)), .int (xs (k + 2)), .int (xs (k + 3))]) (rest := [.int r]) (q := 0) K hw hC2 hl.1 (c_Model_match (l := l) (D := D) (cA := cA) (ad := u2) (s0 := μ) hF2) sh_Model rfl (tb_gV w_1218 w_1219 w_1220 w_80 w_1221) a_Model_match ⟨rfl, rfl, Nat.le_of_ble_eq_true rfl, Nat.le_of_ble_eq_true rfl⟩ rfl rfl (Nat.le_of_ble_eq_true rfl) hcs d_law_531 (fun H locs hw => ?_)
  refine lv_icmp_eq (tgt := 1432) hx hb d_law_534 (by decide) (fun _ => ?_) (fun z => absurd rfl z)
  exact kk _ _ _ _ _ _ _ hR hl hw
set_option maxHeartbeats 1000000 in
theorem law_9 (K : Fx p s m #[Value.ref b] meth c code 4 R_law ret) (hC1 : Cst u1 (fun q => s.heap.size ≤ q) s s.heap) (hC2 : Cst u2 (fun q => s.heap.size ≤ q) s s.heap) (hX : va_X b L xs s s.heap) (hbl : b < s.heap.size) (hL : L ≤ 3584) (hcs : cells ≤ room_1.cells ∧ slots ≤ room_1.slots) (h : Rel σ μ na nt) (hk : k + 7 ≤ L) (kk : ∀ (H : Heap) (locs : List Loc) (ls : Array Slot) (σ' μ' : St) (na' nt' : Nat), Rel σ' μ' na' nt' → lv_has ls 4 [(3, .int (nI k)), (2, .ref (u2 0)), (1, .ref (u1 20)), (0, .ref b)] → Wn D cA (fun q => s.heap.size ≤ q) s (Wd cA u1 shC σ' ++ Wd cA u2 shM μ') H locs → W p l e room_1 s m #[Value.ref b] below meth c H locs cells slots Q (F0 m 1432 ls [])) (hl : lv_has ls 4 [(3, .int (nI k)), (2, .ref (u2 0)), (1, .ref (u1 20)), (0, .ref b)]) (hw : Wn D cA (fun q => s.heap.size ≤ q) s (Wd cA u1 shC σ ++ Wd cA u2 shM μ) H locs) : W p l e room_1 s m #[Value.ref b] below meth c H locs cells slots Q (F0 m 539 ls []) := by
  have hx := K.1.1; have hb := K.1.2.1
  obtain ⟨r, σ', μ', hF1, hF2, hR⟩ := op_wins h (xs (k + 1)) (xs (k + 2)) (xs (k + 3))
  refine lv_aload_n hx hb d_law_539 rfl (lv_at hl 2 rfl) ?_
  refine law_arg (i := 1) K hX hbl hw.2.2.2.1 (lv_at hl 3 rfl) (lv_at hl 0 rfl) (by decide) hk hL d_law_540 d_law_541 d_law_542 d_law_543 d_law_544 rfl ?_
  refine law_arg (i := 2) K hX hbl hw.2.2.2.1 (lv_at hl 3 rfl) (lv_at hl 0 rfl) (by decide) hk hL d_law_545 d_law_546 d_law_547 d_law_548 d_law_549 rfl ?_
  refine law_arg (i := 3) K hX hbl hw.2.2.2.1 (lv_at hl 3 rfl) (lv_at hl 0 rfl) (by decide) hk hL d_law_550 d_law_551 d_law_552 d_law_553 d_law_554 rfl ?_
  refine n_WVI (ws0 := Wd cA u2 shM μ) (As := [.int (xs (k + 1)), .int (xs (k + 2)), .int (xs (k + 3))]) (rest := []) (q := 20) (sh := shC.take 50) K hw.swap hC1 hl.1 (c_Main_wins (l := l) (D := D) (cA := cA) (ad := u1) (s0 := σ) (nC := 50) (Nat.le_of_ble_eq_true rfl) hF1) (sh_Main (Nat.le_of_ble_eq_true rfl)) rfl (tb_gV w_772 w_773 w_774 w_63 w_775) a_Main_wins ⟨rfl, rfl, Nat.le_of_ble_eq_true rfl, Nat.le_of_ble_eq_true rfl⟩ rfl rfl (by decide) hcs d_law_555 (fun H locs hw => ?_)
  have hw : Wn D cA _ s (Wd cA u1 shC σ' ++ Wd cA u2 shM μ) H locs := hw.swap
  refine lv_aload_n hx hb d_law_558 rfl (lv_at hl 1 rfl) ?_
  refine law_arg (i := 1) K hX hbl hw.2.2.2.1 (lv_at hl 3 rfl) (lv_at hl 0 rfl) (by decide) hk hL d_law_559 d_law_560 d_law_561 d_law_562 d_law_563 rfl ?_
  refine law_arg (i := 2) K hX hbl hw.2.2.2.1 (lv_at hl 3 rfl) (lv_at hl 0 rfl) (by decide) hk hL d_law_564 d_law_565 d_law_566 d_law_567 d_law_568 rfl ?_
  refine law_arg (i := 3) K hX hbl hw.2.2.2.1 (lv_at hl 3 rfl) (lv_at hl 0 rfl) (by decide) hk hL d_law_569 d_law_570 d_law_571 d_law_572 d_law_573 rfl ?_
  refine n_WVI (ws0 := Wd cA u1 shC σ') (As := [.int (xs (k + 1)), .int (xs (k + 2)), .int (xs (k + 3))]) (rest := [.int r]) (q := 0) K hw hC2 hl.1 (c_Model_wins (l := l) (D := D) (cA := cA) (ad := u2) (s0 := μ) hF2) sh_Model rfl (tb_gV w_1253 w_1254 w_1255 w_80 w_1256) a_Model_wins ⟨rfl, rfl, Nat.le_of_ble_eq_true rfl, Nat.le_of_ble_eq_true rfl⟩ rfl rfl (Nat.le_of_ble_eq_true rfl) hcs d_law_574 (fun H locs hw => ?_)
  refine lv_icmp_eq (tgt := 1432) hx hb d_law_577 (by decide) (fun _ => ?_) (fun z => absurd rfl z)
  exact kk _ _ _ _ _ _ _ hR hl hw
set_option maxHeartbeats 1000000 in
theorem law_10 (K : Fx p s m #[Value.ref b] meth c code 4 R_law ret) (hC1 : Cst u1 (fun q => s.heap.size ≤ q) s s.heap) (hC2 : Cst u2 (fun q => s.heap.size ≤ q) s s.heap) (hX : va_X b L xs s s.heap) (hbl : b < s.heap.size) (hL : L ≤ 3584) (hcs : cells ≤ room_1.cells ∧ slots ≤ room_1.slots) (h : Rel σ μ na nt) (hk : k + 7 ≤ L) (kk : ∀ (H : Heap) (locs : List Loc) (ls : Array Slot) (σ' μ' : St) (na' nt' : Nat), Rel σ' μ' na' nt' → lv_has ls 4 [(3, .int (nI k)), (2, .ref (u2 0)), (1, .ref (u1 20)), (0, .ref b)] → Wn D cA (fun q => s.heap.size ≤ q) s (Wd cA u1 shC σ' ++ Wd cA u2 shM μ') H locs → W p l e room_1 s m #[Value.ref b] below meth c H locs cells slots Q (F0 m 1432 ls [])) (hl : lv_has ls 4 [(3, .int (nI k)), (2, .ref (u2 0)), (1, .ref (u1 20)), (0, .ref b)]) (hw : Wn D cA (fun q => s.heap.size ≤ q) s (Wd cA u1 shC σ ++ Wd cA u2 shM μ) H locs) : W p l e room_1 s m #[Value.ref b] below meth c H locs cells slots Q (F0 m 582 ls []) := by
  have hx := K.1.1; have hb := K.1.2.1
  obtain ⟨r, σ', μ', hF1, hF2, hR⟩ := op_fight h (xs (k + 1)) (xs (k + 2))
  refine lv_aload_n hx hb d_law_582 rfl (lv_at hl 2 rfl) ?_
  refine law_arg (i := 1) K hX hbl hw.2.2.2.1 (lv_at hl 3 rfl) (lv_at hl 0 rfl) (by decide) hk hL d_law_583 d_law_584 d_law_585 d_law_586 d_law_587 rfl ?_
  refine law_arg (i := 2) K hX hbl hw.2.2.2.1 (lv_at hl 3 rfl) (lv_at hl 0 rfl) (by decide) hk hL d_law_588 d_law_589 d_law_590 d_law_591 d_law_592 rfl ?_
  refine n_WVI (ws0 := Wd cA u2 shM μ) (As := [.int (xs (k + 1)), .int (xs (k + 2))]) (rest := []) (q := 20) (sh := shC.take 50) K hw.swap hC1 hl.1 (c_Main_fight (l := l) (D := D) (cA := cA) (ad := u1) (s0 := σ) (nC := 50) (Nat.le_of_ble_eq_true rfl) hF1) (sh_Main (Nat.le_of_ble_eq_true rfl)) rfl (tb_gV w_781 w_782 w_783 w_63 w_784) a_Main_fight ⟨rfl, rfl, Nat.le_of_ble_eq_true rfl, Nat.le_of_ble_eq_true rfl⟩ rfl rfl (by decide) hcs d_law_593 (fun H locs hw => ?_)
  have hw : Wn D cA _ s (Wd cA u1 shC σ' ++ Wd cA u2 shM μ) H locs := hw.swap
  refine lv_aload_n hx hb d_law_596 rfl (lv_at hl 1 rfl) ?_
  refine law_arg (i := 1) K hX hbl hw.2.2.2.1 (lv_at hl 3 rfl) (lv_at hl 0 rfl) (by decide) hk hL d_law_597 d_law_598 d_law_599 d_law_600 d_law_601 rfl ?_
  refine law_arg (i := 2) K hX hbl hw.2.2.2.1 (lv_at hl 3 rfl) (lv_at hl 0 rfl) (by decide) hk hL d_law_602 d_law_603 d_law_604 d_law_605 d_law_606 rfl ?_
  refine n_WVI (ws0 := Wd cA u1 shC σ') (As := [.int (xs (k + 1)), .int (xs (k + 2))]) (rest := [.int r]) (q := 0) K hw hC2 hl.1 (c_Model_fight (l := l) (D := D) (cA := cA) (ad := u2) (s0 := μ) hF2) sh_Model rfl (tb_gV w_1265 w_1266 w_1267 w_80 w_1268) a_Model_fight ⟨rfl, rfl, Nat.le_of_ble_eq_true rfl, Nat.le_of_ble_eq_true rfl⟩ rfl rfl (Nat.le_of_ble_eq_true rfl) hcs d_law_607 (fun H locs hw => ?_)
  refine lv_icmp_eq (tgt := 1432) hx hb d_law_610 (by decide) (fun _ => ?_) (fun z => absurd rfl z)
  exact kk _ _ _ _ _ _ _ hR hl hw
end LC
