/-! JString.isLatin1()Z -/
abbrev b_JString_isLatin1 : ByteArray := prog_17_method_154_code
def y_JString_isLatin1 : MethodName := ⟨R_JString, "isLatin1", "()Z"⟩
theorem a_JString_isLatin1 : y_JString_isLatin1.cls = R_JString ∧ y_JString_isLatin1.cls ≠ "java/lang/invoke/MethodHandle" ∧ y_JString_isLatin1.cls ≠ "java/lang/invoke/VarHandle" ∧ (parseMethodDescriptor y_JString_isLatin1.desc).map (fun d => d.parameters.length) = some 0 := by decide +kernel
abbrev rm_JString_isLatin1 : Room := { frames := 0, cells := 0, slots := 0, locals := 0 }
theorem w_232 : Cond.fieldLink R_JString 38 "java/lang/String" "COMPACT_STRINGS" "Z" ∈ TB := tb_in 232 (by decide +kernel) (by decide +kernel)
theorem w_1416 : Cond.fieldLink R_JString 15 "java/lang/String" "code\x72" "B" ∈ TB := tb_in 1416 (by decide +kernel) (by decide +kernel)
theorem w_241 : Cond.code y_JString_isLatin1 b_JString_isLatin1 1 (some .boolean) ∈ TB := tb_in 241 (by decide +kernel) (by decide +kernel)
theorem d_JString_isLatin1_0 : decode b_JString_isLatin1 0 = .ok (.getstatic 38, 3) := by decide +kernel
theorem d_JString_isLatin1_3 : decode b_JString_isLatin1 3 = .ok (.ifCond .eq 14, 3) := by decide +kernel
theorem d_JString_isLatin1_6 : decode b_JString_isLatin1 6 = .ok (.aload_n 0, 1) := by decide +kernel
theorem d_JString_isLatin1_7 : decode b_JString_isLatin1 7 = .ok (.getfield 15, 3) := by decide +kernel
theorem d_JString_isLatin1_10 : decode b_JString_isLatin1 10 = .ok (.ifCond .ne 7, 3) := by decide +kernel
theorem d_JString_isLatin1_13 : decode b_JString_isLatin1 13 = .ok (.iconst 1, 1) := by decide +kernel
theorem d_JString_isLatin1_14 : decode b_JString_isLatin1 14 = .ok (.goto 4, 3) := by decide +kernel
theorem d_JString_isLatin1_17 : decode b_JString_isLatin1 17 = .ok (.iconst 0, 1) := by decide +kernel
theorem d_JString_isLatin1_18 : decode b_JString_isLatin1 18 = .ok (.ireturn, 1) := by decide +kernel
section S_JString_isLatin1
variable {p : Program} {l : Launch} {e : Env} {s : State} {m : MethodId} {args : Array Value} {below : List Frame} {meth : Method} {c : Code} {D : va_G} {cA : Nat → ClassId} {ad : Nat → Nat} {nC : Nat} {A : Nat → Prop} {r : Int32} {τ : St}
noncomputable def F_JString_isLatin1_0 (v0 : Nat) : Int32 := (if (1 : Int32) = 0 then (0 : Int32) else (if ¬ (0 : Int32) = 0 then (0 : Int32) else (1 : Int32)))
set_option maxHeartbeats 4000000 in
set_option maxRecDepth 100000 in
theorem q_JString_isLatin1_0 (hn : 0 ≤ nC) (s0 : St) (K : Fx p s m args meth c b_JString_isLatin1 1 R_JString (some .boolean))  : ∀ (H : Heap) (locs : List Loc) (ls : Array Slot) (v0 : Nat) (g_v0 : v0 < 3), Wh D cA ad (shC.take nC) A s s0 H locs → lv_has ls 1 [(0, .ref (ad (101 + v0)))] → F_JString_isLatin1_0 v0 = r → W p l e rm_JString_isLatin1 s m args below meth c H locs 0 0 (MQ below (QcI D cA ad (shC.take nC) A r s0) args s 0 0 A) (F0 m 0 ls []) := by
  have hx := K.1.1; have hb := K.1.2.1
  intro H locs ls v0 g_v0 hw hl hF
  unfold F_JString_isLatin1_0 at hF
  refine k_cs K hw w_232 d_JString_isLatin1_0 ?_
  refine lv_if_eq (tgt := 17) hx hb d_JString_isLatin1_3 (by decide) (fun c_1 => ?_) (fun c_1 => ?_)
  · replace hF := ifT hF c_1
    refine lv_iconst (v := 0) hx hb d_JString_isLatin1_17 (by decide) ?_
    subst hF
    exact r_zret K hw (by decide) d_JString_isLatin1_18
  · replace hF := ifF hF c_1
    refine lv_aload_n hx hb d_JString_isLatin1_6 rfl (lv_at hl 0 rfl) ?_
    refine k_cod K hw g_v0 w_1416 d_JString_isLatin1_7 ?_
    refine lv_if_ne (tgt := 17) hx hb d_JString_isLatin1_10 (by decide) (fun c_2 => ?_) (fun c_2 => ?_)
    · replace hF := ifT hF c_2
      refine lv_iconst (v := 0) hx hb d_JString_isLatin1_17 (by decide) ?_
      subst hF
      exact r_zret K hw (by decide) d_JString_isLatin1_18
    · replace hF := ifN hF c_2
      refine lv_iconst (v := 1) hx hb d_JString_isLatin1_13 (by decide) ?_
      refine lv_goto (tgt := 18) hx hb d_JString_isLatin1_14 (by decide) ?_
      subst hF
      exact r_zret K hw (by decide) d_JString_isLatin1_18
end S_JString_isLatin1
noncomputable abbrev F_JString_isLatin1 := F_JString_isLatin1_0
theorem c_JString_isLatin1 {l : Launch} {D : va_G} {cA : Nat → ClassId} {ad : Nat → Nat} {s0 : St} {nC : Nat} (hn : 0 ≤ nC) {r : Int32} {v0 : Nat} (g_v0 : v0 < 3) (hF : F_JString_isLatin1 v0 = r) : MI l D cA ad (shC.take nC) y_JString_isLatin1 (wT y_JString_isLatin1 b_JString_isLatin1 1 (some .boolean)) rm_JString_isLatin1 [.ref (ad (101 + v0))] s0 r s0 := fun sz => m_start (Qc := fun A => QcI D cA ad (shC.take nC) A r s0) (by decide +kernel) w_241 (Nat.le_of_ble_eq_true rfl) (fun p e s m below meth c ls K hl hw => q_JString_isLatin1_0 hn s0 K _ _ _ _ g_v0 hw hl hF)

/-! JString.coder()B -/
abbrev b_JString_coder : ByteArray := prog_17_method_152_code
def y_JString_coder : MethodName := ⟨R_JString, "code\x72", "()B"⟩
theorem a_JString_coder : y_JString_coder.cls = R_JString ∧ y_JString_coder.cls ≠ "java/lang/invoke/MethodHandle" ∧ y_JString_coder.cls ≠ "java/lang/invoke/VarHandle" ∧ (parseMethodDescriptor y_JString_coder.desc).map (fun d => d.parameters.length) = some 0 := by decide +kernel
abbrev rm_JString_coder : Room := { frames := 0, cells := 0, slots := 0, locals := 0 }
theorem w_231 : Cond.code y_JString_coder b_JString_coder 1 (some .byte) ∈ TB := tb_in 231 (by decide +kernel) (by decide +kernel)
theorem d_JString_coder_0 : decode b_JString_coder 0 = .ok (.getstatic 38, 3) := by decide +kernel
theorem d_JString_coder_3 : decode b_JString_coder 3 = .ok (.ifCond .eq 10, 3) := by decide +kernel
theorem d_JString_coder_6 : decode b_JString_coder 6 = .ok (.aload_n 0, 1) := by decide +kernel
theorem d_JString_coder_7 : decode b_JString_coder 7 = .ok (.getfield 15, 3) := by decide +kernel
theorem d_JString_coder_10 : decode b_JString_coder 10 = .ok (.goto 4, 3) := by decide +kernel
theorem d_JString_coder_13 : decode b_JString_coder 13 = .ok (.iconst 1, 1) := by decide +kernel
theorem d_JString_coder_14 : decode b_JString_coder 14 = .ok (.ireturn, 1) := by decide +kernel
section S_JString_coder
variable {p : Program} {l : Launch} {e : Env} {s : State} {m : MethodId} {args : Array Value} {below : List Frame} {meth : Method} {c : Code} {D : va_G} {cA : Nat → ClassId} {ad : Nat → Nat} {nC : Nat} {A : Nat → Prop} {r : Int32} {τ : St}
noncomputable def F_JString_coder_0 (v0 : Nat) : Int32 := (if (1 : Int32) = 0 then (1 : Int32) else (0 : Int32))
set_option maxHeartbeats 4000000 in
set_option maxRecDepth 100000 in
theorem q_JString_coder_0 (hn : 0 ≤ nC) (s0 : St) (K : Fx p s m args meth c b_JString_coder 1 R_JString (some .byte))  : ∀ (H : Heap) (locs : List Loc) (ls : Array Slot) (v0 : Nat) (g_v0 : v0 < 3), Wh D cA ad (shC.take nC) A s s0 H locs → lv_has ls 1 [(0, .ref (ad (101 + v0)))] → F_JString_coder_0 v0 = r → W p l e rm_JString_coder s m args below meth c H locs 0 0 (MQ below (QcI D cA ad (shC.take nC) A r s0) args s 0 0 A) (F0 m 0 ls []) := by
  have hx := K.1.1; have hb := K.1.2.1
  intro H locs ls v0 g_v0 hw hl hF
  unfold F_JString_coder_0 at hF
  refine k_cs K hw w_232 d_JString_coder_0 ?_
  refine lv_if_eq (tgt := 13) hx hb d_JString_coder_3 (by decide) (fun c_1 => ?_) (fun c_1 => ?_)
  · replace hF := ifT hF c_1
    refine lv_iconst (v := 1) hx hb d_JString_coder_13 (by decide) ?_
    subst hF
    exact k_nret K hw rfl (by decide) d_JString_coder_14
  · replace hF := ifF hF c_1
    refine lv_aload_n hx hb d_JString_coder_6 rfl (lv_at hl 0 rfl) ?_
    refine k_cod K hw g_v0 w_1416 d_JString_coder_7 ?_
    refine lv_goto (tgt := 14) hx hb d_JString_coder_10 (by decide) ?_
    subst hF
    exact k_nret K hw rfl (by decide) d_JString_coder_14
end S_JString_coder
noncomputable abbrev F_JString_coder := F_JString_coder_0
theorem c_JString_coder {l : Launch} {D : va_G} {cA : Nat → ClassId} {ad : Nat → Nat} {s0 : St} {nC : Nat} (hn : 0 ≤ nC) {r : Int32} {v0 : Nat} (g_v0 : v0 < 3) (hF : F_JString_coder v0 = r) : MI l D cA ad (shC.take nC) y_JString_coder (wT y_JString_coder b_JString_coder 1 (some .byte)) rm_JString_coder [.ref (ad (101 + v0))] s0 r s0 := fun sz => m_start (Qc := fun A => QcI D cA ad (shC.take nC) A r s0) (by decide +kernel) w_231 (Nat.le_of_ble_eq_true rfl) (fun p e s m below meth c ls K hl hw => q_JString_coder_0 hn s0 K _ _ _ _ g_v0 hw hl hF)

/-! JString.length()I -/
abbrev b_JString_length : ByteArray := prog_17_method_54_code
def y_JString_length : MethodName := ⟨R_JString, "length", "()I"⟩
theorem a_JString_length : y_JString_length.cls = R_JString ∧ y_JString_length.cls ≠ "java/lang/invoke/MethodHandle" ∧ y_JString_length.cls ≠ "java/lang/invoke/VarHandle" ∧ (parseMethodDescriptor y_JString_length.desc).map (fun d => d.parameters.length) = some 0 := by decide +kernel
abbrev rm_JString_length : Room := { frames := 1, cells := 0, slots := 0, locals := 20 }
theorem w_1415 : Cond.fieldLink R_JString 9 "java/lang/String" "value" "[B" ∈ TB := tb_in 1415 (by decide +kernel) (by decide +kernel)
theorem w_228 : Cond.methodLink R_JString 335 y_JString_coder ∈ TB := tb_in 228 (by decide +kernel) (by decide +kernel)
theorem w_229 : Cond.instanceMethod y_JString_coder ∈ TB := tb_in 229 (by decide +kernel) (by decide +kernel)
theorem w_230 : Cond.selects R_JString y_JString_coder y_JString_coder ∈ TB := tb_in 230 (by decide +kernel) (by decide +kernel)
theorem w_69 : Cond.initialized R_JString ∈ TB := tb_in 69 (by decide +kernel) (by decide +kernel)
theorem w_227 : Cond.code y_JString_length b_JString_length 1 (some .int) ∈ TB := tb_in 227 (by decide +kernel) (by decide +kernel)
theorem d_JString_length_0 : decode b_JString_length 0 = .ok (.aload_n 0, 1) := by decide +kernel
theorem d_JString_length_1 : decode b_JString_length 1 = .ok (.getfield 9, 3) := by decide +kernel
theorem d_JString_length_4 : decode b_JString_length 4 = .ok (.arraylength, 1) := by decide +kernel
theorem d_JString_length_5 : decode b_JString_length 5 = .ok (.aload_n 0, 1) := by decide +kernel
theorem d_JString_length_6 : decode b_JString_length 6 = .ok (.invokevirtual 335, 3) := by decide +kernel
theorem d_JString_length_9 : decode b_JString_length 9 = .ok (.ishr, 1) := by decide +kernel
theorem d_JString_length_10 : decode b_JString_length 10 = .ok (.ireturn, 1) := by decide +kernel
section S_JString_length
variable {p : Program} {l : Launch} {e : Env} {s : State} {m : MethodId} {args : Array Value} {below : List Frame} {meth : Method} {c : Code} {D : va_G} {cA : Nat → ClassId} {ad : Nat → Nat} {nC : Nat} {A : Nat → Prop} {r : Int32} {τ : St}
noncomputable def F_JString_length_0 (v0 : Nat) : Int32 := (jshr (nI (SLEN.getD v0 0)) (F_JString_coder v0))
set_option maxHeartbeats 4000000 in
set_option maxRecDepth 100000 in
theorem q_JString_length_0 (hn : 0 ≤ nC) (s0 : St) (K : Fx p s m args meth c b_JString_length 1 R_JString (some .int))  : ∀ (H : Heap) (locs : List Loc) (ls : Array Slot) (v0 : Nat) (g_v0 : v0 < 3), Wh D cA ad (shC.take nC) A s s0 H locs → lv_has ls 1 [(0, .ref (ad (101 + v0)))] → F_JString_length_0 v0 = r → W p l e rm_JString_length s m args below meth c H locs 0 0 (MQ below (QcI D cA ad (shC.take nC) A r s0) args s 0 0 A) (F0 m 0 ls []) := by
  have hx := K.1.1; have hb := K.1.2.1
  intro H locs ls v0 g_v0 hw hl hF
  unfold F_JString_length_0 at hF
  refine lv_aload_n hx hb d_JString_length_0 rfl (lv_at hl 0 rfl) ?_
  refine k_val K hw g_v0 w_1415 d_JString_length_1 ?_
  refine k_blen K hw g_v0 d_JString_length_4 ?_
  refine lv_aload_n hx hb d_JString_length_5 rfl (lv_at hl 0 rfl) ?_
  refine k_callVI (As := []) (rest := [.int (nI (SLEN.getD v0 0))]) K hw hl.1 (c_JString_coder (l := l) (D := D) (cA := cA) (ad := ad) (s0 := s0) (Nat.le_trans (Nat.le_of_ble_eq_true rfl) hn) g_v0 rfl) g_v0 (tb_gV w_228 w_229 w_230 w_69 w_231) a_JString_coder ⟨rfl, rfl, Nat.le_of_ble_eq_true rfl, Nat.le_of_ble_eq_true rfl⟩ rfl rfl (Nat.le_of_ble_eq_true rfl) d_JString_length_6 (fun H locs hw => ?_)
  refine lv_ishr hx hb d_JString_length_9 ?_
  subst hF
  exact r_iret K hw d_JString_length_10
end S_JString_length
noncomputable abbrev F_JString_length := F_JString_length_0
theorem c_JString_length {l : Launch} {D : va_G} {cA : Nat → ClassId} {ad : Nat → Nat} {s0 : St} {nC : Nat} (hn : 0 ≤ nC) {r : Int32} {v0 : Nat} (g_v0 : v0 < 3) (hF : F_JString_length v0 = r) : MI l D cA ad (shC.take nC) y_JString_length (wT y_JString_length b_JString_length 1 (some .int)) rm_JString_length [.ref (ad (101 + v0))] s0 r s0 := fun sz => m_start (Qc := fun A => QcI D cA ad (shC.take nC) A r s0) (by decide +kernel) w_227 (Nat.le_of_ble_eq_true rfl) (fun p e s m below meth c ls K hl hw => q_JString_length_0 hn s0 K _ _ _ _ g_v0 hw hl hF)

/-! JLatin1.canEncode(I)Z -/
abbrev b_JLatin1_canEncode : ByteArray := prog_18_method_4_code
def y_JLatin1_canEncode : MethodName := ⟨R_JLatin1, "canEncode", "(I)Z"⟩
theorem a_JLatin1_canEncode : y_JLatin1_canEncode.cls = R_JLatin1 ∧ y_JLatin1_canEncode.cls ≠ "java/lang/invoke/MethodHandle" ∧ y_JLatin1_canEncode.cls ≠ "java/lang/invoke/VarHandle" ∧ (parseMethodDescriptor y_JLatin1_canEncode.desc).map (fun d => d.parameters.length) = some 1 := by decide +kernel
abbrev rm_JLatin1_canEncode : Room := { frames := 0, cells := 0, slots := 0, locals := 0 }
theorem w_392 : Cond.code y_JLatin1_canEncode b_JLatin1_canEncode 1 (some .boolean) ∈ TB := tb_in 392 (by decide +kernel) (by decide +kernel)
theorem d_JLatin1_canEncode_0 : decode b_JLatin1_canEncode 0 = .ok (.iload_n 0, 1) := by decide +kernel
theorem d_JLatin1_canEncode_1 : decode b_JLatin1_canEncode 1 = .ok (.ifCond .lt 14, 3) := by decide +kernel
theorem d_JLatin1_canEncode_4 : decode b_JLatin1_canEncode 4 = .ok (.iload_n 0, 1) := by decide +kernel
theorem d_JLatin1_canEncode_5 : decode b_JLatin1_canEncode 5 = .ok (.sipush 255, 3) := by decide +kernel
theorem d_JLatin1_canEncode_8 : decode b_JLatin1_canEncode 8 = .ok (.if_icmp .gt 7, 3) := by decide +kernel
theorem d_JLatin1_canEncode_11 : decode b_JLatin1_canEncode 11 = .ok (.iconst 1, 1) := by decide +kernel
theorem d_JLatin1_canEncode_12 : decode b_JLatin1_canEncode 12 = .ok (.goto 4, 3) := by decide +kernel
theorem d_JLatin1_canEncode_15 : decode b_JLatin1_canEncode 15 = .ok (.iconst 0, 1) := by decide +kernel
theorem d_JLatin1_canEncode_16 : decode b_JLatin1_canEncode 16 = .ok (.ireturn, 1) := by decide +kernel
section S_JLatin1_canEncode
variable {p : Program} {l : Launch} {e : Env} {s : State} {m : MethodId} {args : Array Value} {below : List Frame} {meth : Method} {c : Code} {D : va_G} {cA : Nat → ClassId} {ad : Nat → Nat} {nC : Nat} {A : Nat → Prop} {r : Int32} {τ : St}
noncomputable def F_JLatin1_canEncode_0 (v0 : Int32) : Int32 := (if v0 < 0 then (0 : Int32) else (if (255 : Int32) < v0 then (0 : Int32) else (1 : Int32)))
set_option maxHeartbeats 4000000 in
set_option maxRecDepth 100000 in
theorem q_JLatin1_canEncode_0 (hn : 0 ≤ nC) (s0 : St) (K : Fx p s m args meth c b_JLatin1_canEncode 1 R_JLatin1 (some .boolean))  : ∀ (H : Heap) (locs : List Loc) (ls : Array Slot) (v0 : Int32), Wh D cA ad (shC.take nC) A s s0 H locs → lv_has ls 1 [(0, .int v0)] → F_JLatin1_canEncode_0 v0 = r → W p l e rm_JLatin1_canEncode s m args below meth c H locs 0 0 (MQ below (QcI D cA ad (shC.take nC) A r s0) args s 0 0 A) (F0 m 0 ls []) := by
  have hx := K.1.1; have hb := K.1.2.1
  intro H locs ls v0 hw hl hF
  unfold F_JLatin1_canEncode_0 at hF
  refine lv_iload_n hx hb d_JLatin1_canEncode_0 rfl (lv_at hl 0 rfl) ?_
  refine lv_if_lt (tgt := 15) hx hb d_JLatin1_canEncode_1 (by decide) (fun c_1 => ?_) (fun c_1 => ?_)
  · replace hF := ifT hF c_1
    refine lv_iconst (v := 0) hx hb d_JLatin1_canEncode_15 (by decide) ?_
    subst hF
    exact r_zret K hw (by decide) d_JLatin1_canEncode_16
  · replace hF := ifF hF c_1
    refine lv_iload_n hx hb d_JLatin1_canEncode_4 rfl (lv_at hl 0 rfl) ?_
    refine lv_sipush (v := 255) hx hb d_JLatin1_canEncode_5 (by decide) ?_
    refine lv_icmp_gt (tgt := 15) hx hb d_JLatin1_canEncode_8 (by decide) (fun c_2 => ?_) (fun c_2 => ?_)
    · replace hF := ifT hF c_2
      refine lv_iconst (v := 0) hx hb d_JLatin1_canEncode_15 (by decide) ?_
      subst hF
      exact r_zret K hw (by decide) d_JLatin1_canEncode_16
    · replace hF := ifF hF c_2
      refine lv_iconst (v := 1) hx hb d_JLatin1_canEncode_11 (by decide) ?_
      refine lv_goto (tgt := 16) hx hb d_JLatin1_canEncode_12 (by decide) ?_
      subst hF
      exact r_zret K hw (by decide) d_JLatin1_canEncode_16
end S_JLatin1_canEncode
noncomputable abbrev F_JLatin1_canEncode := F_JLatin1_canEncode_0
theorem c_JLatin1_canEncode {l : Launch} {D : va_G} {cA : Nat → ClassId} {ad : Nat → Nat} {s0 : St} {nC : Nat} (hn : 0 ≤ nC) {r : Int32} {v0 : Int32}  (hF : F_JLatin1_canEncode v0 = r) : MI l D cA ad (shC.take nC) y_JLatin1_canEncode (wT y_JLatin1_canEncode b_JLatin1_canEncode 1 (some .boolean)) rm_JLatin1_canEncode [.int v0] s0 r s0 := fun sz => m_start (Qc := fun A => QcI D cA ad (shC.take nC) A r s0) (by decide +kernel) w_392 (Nat.le_of_ble_eq_true rfl) (fun p e s m below meth c ls K hl hw => q_JLatin1_canEncode_0 hn s0 K _ _ _ _  hw hl hF)

/-! JLatin1.indexOfChar([BIII)I -/
abbrev b_JLatin1_indexOfChar : ByteArray := prog_18_method_23_code
def y_JLatin1_indexOfChar : MethodName := ⟨R_JLatin1, "indexOfCha\x72", "([BIII)I"⟩
theorem a_JLatin1_indexOfChar : y_JLatin1_indexOfChar.cls = R_JLatin1 ∧ y_JLatin1_indexOfChar.cls ≠ "java/lang/invoke/MethodHandle" ∧ y_JLatin1_indexOfChar.cls ≠ "java/lang/invoke/VarHandle" ∧ (parseMethodDescriptor y_JLatin1_indexOfChar.desc).map (fun d => d.parameters.length) = some 4 := by decide +kernel
abbrev rm_JLatin1_indexOfChar : Room := { frames := 0, cells := 0, slots := 0, locals := 0 }
theorem w_401 : Cond.code y_JLatin1_indexOfChar b_JLatin1_indexOfChar 6 (some .int) ∈ TB := tb_in 401 (by decide +kernel) (by decide +kernel)
theorem d_JLatin1_indexOfChar_0 : decode b_JLatin1_indexOfChar 0 = .ok (.iload_n 1, 1) := by decide +kernel
theorem d_JLatin1_indexOfChar_1 : decode b_JLatin1_indexOfChar 1 = .ok (.i2b, 1) := by decide +kernel
theorem d_JLatin1_indexOfChar_2 : decode b_JLatin1_indexOfChar 2 = .ok (.istore 4, 2) := by decide +kernel
theorem d_JLatin1_indexOfChar_4 : decode b_JLatin1_indexOfChar 4 = .ok (.iload_n 2, 1) := by decide +kernel
theorem d_JLatin1_indexOfChar_5 : decode b_JLatin1_indexOfChar 5 = .ok (.istore 5, 2) := by decide +kernel
theorem d_JLatin1_indexOfChar_7 : decode b_JLatin1_indexOfChar 7 = .ok (.iload 5, 2) := by decide +kernel
theorem d_JLatin1_indexOfChar_9 : decode b_JLatin1_indexOfChar 9 = .ok (.iload_n 3, 1) := by decide +kernel
theorem d_JLatin1_indexOfChar_10 : decode b_JLatin1_indexOfChar 10 = .ok (.if_icmp .ge 21, 3) := by decide +kernel
theorem d_JLatin1_indexOfChar_13 : decode b_JLatin1_indexOfChar 13 = .ok (.aload_n 0, 1) := by decide +kernel
theorem d_JLatin1_indexOfChar_14 : decode b_JLatin1_indexOfChar 14 = .ok (.iload 5, 2) := by decide +kernel
theorem d_JLatin1_indexOfChar_16 : decode b_JLatin1_indexOfChar 16 = .ok (.baload, 1) := by decide +kernel
theorem d_JLatin1_indexOfChar_17 : decode b_JLatin1_indexOfChar 17 = .ok (.iload 4, 2) := by decide +kernel
theorem d_JLatin1_indexOfChar_19 : decode b_JLatin1_indexOfChar 19 = .ok (.if_icmp .ne 6, 3) := by decide +kernel
theorem d_JLatin1_indexOfChar_22 : decode b_JLatin1_indexOfChar 22 = .ok (.iload 5, 2) := by decide +kernel
theorem d_JLatin1_indexOfChar_24 : decode b_JLatin1_indexOfChar 24 = .ok (.ireturn, 1) := by decide +kernel
theorem d_JLatin1_indexOfChar_25 : decode b_JLatin1_indexOfChar 25 = .ok (.iinc 5 1, 3) := by decide +kernel
theorem d_JLatin1_indexOfChar_28 : decode b_JLatin1_indexOfChar 28 = .ok (.goto (-21), 3) := by decide +kernel
theorem d_JLatin1_indexOfChar_31 : decode b_JLatin1_indexOfChar 31 = .ok (.iconst (-1), 1) := by decide +kernel
theorem d_JLatin1_indexOfChar_32 : decode b_JLatin1_indexOfChar 32 = .ok (.ireturn, 1) := by decide +kernel
section S_JLatin1_indexOfChar
variable {p : Program} {l : Launch} {e : Env} {s : State} {m : MethodId} {args : Array Value} {below : List Frame} {meth : Method} {c : Code} {D : va_G} {cA : Nat → ClassId} {ad : Nat → Nat} {nC : Nat} {A : Nat → Prop} {r : Int32} {τ : St}
noncomputable def F_JLatin1_indexOfChar_7 : Nat → Nat → Int32 → Int32 → Int32 → Option Int32
  | 0, _, _, _, _ => none
  | n + 1, v0, v3, v4, v5 => (if v3 ≤ v5 then (some (-1 : Int32)) else (if inB v5 (SLEN.getD v0 0) = true then (if ¬ ((SBYT.getD v0 []).getD v5.toNatClampNeg 0) = v4 then (F_JLatin1_indexOfChar_7 n v0 v3 v4 (v5 + 1)) else (some v5)) else none))
set_option maxHeartbeats 4000000 in
set_option maxRecDepth 100000 in
theorem q_JLatin1_indexOfChar_7 (hn : 0 ≤ nC) (s0 : St) (K : Fx p s m args meth c b_JLatin1_indexOfChar 6 R_JLatin1 (some .int))  : ∀ (n : Nat), ∀ (H : Heap) (locs : List Loc) (ls : Array Slot) (v0 : Nat) (v3 : Int32) (v4 : Int32) (v5 : Int32) (g_v0 : v0 < 3), Wh D cA ad (shC.take nC) A s s0 H locs → lv_has ls 6 [(0, .ref (ad (104 + v0))), (3, .int v3), (4, .int v4), (5, .int v5)] → F_JLatin1_indexOfChar_7 n v0 v3 v4 v5 = (some r) → W p l e rm_JLatin1_indexOfChar s m args below meth c H locs 0 0 (MQ below (QcI D cA ad (shC.take nC) A r s0) args s 0 0 A) (F0 m 7 ls []) := by
  have hx := K.1.1; have hb := K.1.2.1
  intro n
  induction n with
  | zero =>
    intro H locs ls v0 v3 v4 v5 g_v0 hw hl hF
    exact absurd hF (by rw [F_JLatin1_indexOfChar_7]; exact nofun)
  | succ n ih =>
    intro H locs ls v0 v3 v4 v5 g_v0 hw hl hF
    rw [F_JLatin1_indexOfChar_7] at hF
    refine lv_iload hx hb d_JLatin1_indexOfChar_7 (lv_at hl 3 rfl) ?_
    refine lv_iload_n hx hb d_JLatin1_indexOfChar_9 rfl (lv_at hl 1 rfl) ?_
    refine lv_icmp_ge (tgt := 31) hx hb d_JLatin1_indexOfChar_10 (by decide) (fun c_1 => ?_) (fun c_1 => ?_)
    · replace hF := ifT hF c_1
      refine lv_iconst (v := -1) hx hb d_JLatin1_indexOfChar_31 (by decide) ?_
      replace hF := sE1 hF
      subst hF
      exact r_iret K hw d_JLatin1_indexOfChar_32
    · replace hF := ifF hF c_1
      refine lv_aload_n hx hb d_JLatin1_indexOfChar_13 rfl (lv_at hl 0 rfl) ?_
      refine lv_iload hx hb d_JLatin1_indexOfChar_14 (lv_at hl 3 rfl) ?_
      obtain ⟨g_2, hF⟩ := ifG hF
      refine k_bald K hw g_v0 (inB_vp g_2) d_JLatin1_indexOfChar_16 ?_
      refine lv_iload hx hb d_JLatin1_indexOfChar_17 (lv_at hl 2 rfl) ?_
      refine lv_icmp_ne (tgt := 25) hx hb d_JLatin1_indexOfChar_19 (by decide) (fun c_3 => ?_) (fun c_3 => ?_)
      · replace hF := ifT hF c_3
        refine lv_iinc (v := (v5 + 1)) (lv' := [(5, .int (v5 + 1)), (0, .ref (ad (104 + v0))), (3, .int v3), (4, .int v4)]) hx hb d_JLatin1_indexOfChar_25 hl (k := 3) rfl rfl (by decide) rfl (fun ls hl => ?_)
        refine lv_goto (tgt := 7) hx hb d_JLatin1_indexOfChar_28 (by decide) ?_
        exact ih _ _ _ _ _ _ _ g_v0 hw (lv_sub hl [1, 2, 3, 0] rfl) hF
      · replace hF := ifN hF c_3
        refine lv_iload hx hb d_JLatin1_indexOfChar_22 (lv_at hl 3 rfl) ?_
        replace hF := sE1 hF
        subst hF
        exact r_iret K hw d_JLatin1_indexOfChar_24
noncomputable def F_JLatin1_indexOfChar_0 (v0 : Nat) (v1 : Int32) (v2 : Int32) (v3 : Int32) : Option Int32 := (F_JLatin1_indexOfChar_7 FU v0 v3 (v1.toInt8.toInt32) v2)
set_option maxHeartbeats 4000000 in
set_option maxRecDepth 100000 in
theorem q_JLatin1_indexOfChar_0 (hn : 0 ≤ nC) (s0 : St) (K : Fx p s m args meth c b_JLatin1_indexOfChar 6 R_JLatin1 (some .int))  : ∀ (H : Heap) (locs : List Loc) (ls : Array Slot) (v0 : Nat) (v1 : Int32) (v2 : Int32) (v3 : Int32) (g_v0 : v0 < 3), Wh D cA ad (shC.take nC) A s s0 H locs → lv_has ls 6 [(0, .ref (ad (104 + v0))), (1, .int v1), (2, .int v2), (3, .int v3)] → F_JLatin1_indexOfChar_0 v0 v1 v2 v3 = (some r) → W p l e rm_JLatin1_indexOfChar s m args below meth c H locs 0 0 (MQ below (QcI D cA ad (shC.take nC) A r s0) args s 0 0 A) (F0 m 0 ls []) := by
  have hx := K.1.1; have hb := K.1.2.1
  intro H locs ls v0 v1 v2 v3 g_v0 hw hl hF
  unfold F_JLatin1_indexOfChar_0 at hF
  refine lv_iload_n hx hb d_JLatin1_indexOfChar_0 rfl (lv_at hl 1 rfl) ?_
  refine lv_i2b (v := v1.toInt8.toInt32) hx hb d_JLatin1_indexOfChar_1 rfl ?_
  refine lv_istore (lv' := [(4, .int (v1.toInt8.toInt32)), (0, .ref (ad (104 + v0))), (1, .int v1), (2, .int v2), (3, .int v3)]) hx hb d_JLatin1_indexOfChar_2 hl (by decide) rfl (fun ls hl => ?_)
  refine lv_iload_n hx hb d_JLatin1_indexOfChar_4 rfl (lv_at hl 3 rfl) ?_
  refine lv_istore (lv' := [(5, .int v2), (4, .int (v1.toInt8.toInt32)), (0, .ref (ad (104 + v0))), (1, .int v1), (2, .int v2), (3, .int v3)]) hx hb d_JLatin1_indexOfChar_5 hl (by decide) rfl (fun ls hl => ?_)
  exact q_JLatin1_indexOfChar_7 hn s0 K FU _ _ _ _ _ _ _ g_v0 hw (lv_sub hl [2, 5, 1, 0] rfl) hF
end S_JLatin1_indexOfChar
noncomputable abbrev F_JLatin1_indexOfChar := F_JLatin1_indexOfChar_0
theorem c_JLatin1_indexOfChar {l : Launch} {D : va_G} {cA : Nat → ClassId} {ad : Nat → Nat} {s0 : St} {nC : Nat} (hn : 0 ≤ nC) {r : Int32} {v0 : Nat} {v1 : Int32} {v2 : Int32} {v3 : Int32} (g_v0 : v0 < 3) (hF : F_JLatin1_indexOfChar v0 v1 v2 v3 = (some r)) : MI l D cA ad (shC.take nC) y_JLatin1_indexOfChar (wT y_JLatin1_indexOfChar b_JLatin1_indexOfChar 6 (some .int)) rm_JLatin1_indexOfChar [.ref (ad (104 + v0)), .int v1, .int v2, .int v3] s0 r s0 := fun sz => m_start (Qc := fun A => QcI D cA ad (shC.take nC) A r s0) (by decide +kernel) w_401 (Nat.le_of_ble_eq_true rfl) (fun p e s m below meth c ls K hl hw => q_JLatin1_indexOfChar_0 hn s0 K _ _ _ _ _ _ _ g_v0 hw hl hF)

/-! JLatin1.indexOf([BIII)I -/
abbrev b_JLatin1_indexOf : ByteArray := prog_18_method_22_code
def y_JLatin1_indexOf : MethodName := ⟨R_JLatin1, "indexOf", "([BIII)I"⟩
theorem a_JLatin1_indexOf : y_JLatin1_indexOf.cls = R_JLatin1 ∧ y_JLatin1_indexOf.cls ≠ "java/lang/invoke/MethodHandle" ∧ y_JLatin1_indexOf.cls ≠ "java/lang/invoke/VarHandle" ∧ (parseMethodDescriptor y_JLatin1_indexOf.desc).map (fun d => d.parameters.length) = some 4 := by decide +kernel
abbrev rm_JLatin1_indexOf : Room := { frames := 1, cells := 0, slots := 0, locals := 40 }
theorem w_390 : Cond.methodLink R_JLatin1 88 y_JLatin1_canEncode ∈ TB := tb_in 390 (by decide +kernel) (by decide +kernel)
theorem w_391 : Cond.static y_JLatin1_canEncode ∈ TB := tb_in 391 (by decide +kernel) (by decide +kernel)
theorem w_70 : Cond.initialized R_JLatin1 ∈ TB := tb_in 70 (by decide +kernel) (by decide +kernel)
theorem w_393 : Cond.methodLink R_JLatin1 92 Lib.Math.max.name ∈ TB := tb_in 393 (by decide +kernel) (by decide +kernel)
theorem w_394 : Cond.static Lib.Math.max.name ∈ TB := tb_in 394 (by decide +kernel) (by decide +kernel)
theorem w_75 : Cond.initialized "java/lang/Math" ∈ TB := tb_in 75 (by decide +kernel) (by decide +kernel)
theorem w_395 : Cond.code Lib.Math.max.name Lib.Math.max.code 2 (some .int) ∈ TB := tb_in 395 (by decide +kernel) (by decide +kernel)
theorem w_396 : Cond.methodLink R_JLatin1 38 Lib.Math.min.name ∈ TB := tb_in 396 (by decide +kernel) (by decide +kernel)
theorem w_397 : Cond.static Lib.Math.min.name ∈ TB := tb_in 397 (by decide +kernel) (by decide +kernel)
theorem w_398 : Cond.code Lib.Math.min.name Lib.Math.min.code 2 (some .int) ∈ TB := tb_in 398 (by decide +kernel) (by decide +kernel)
theorem w_399 : Cond.methodLink R_JLatin1 95 y_JLatin1_indexOfChar ∈ TB := tb_in 399 (by decide +kernel) (by decide +kernel)
theorem w_400 : Cond.static y_JLatin1_indexOfChar ∈ TB := tb_in 400 (by decide +kernel) (by decide +kernel)
theorem w_389 : Cond.code y_JLatin1_indexOf b_JLatin1_indexOf 4 (some .int) ∈ TB := tb_in 389 (by decide +kernel) (by decide +kernel)
theorem d_JLatin1_indexOf_0 : decode b_JLatin1_indexOf 0 = .ok (.iload_n 1, 1) := by decide +kernel
theorem d_JLatin1_indexOf_1 : decode b_JLatin1_indexOf 1 = .ok (.invokestatic 88, 3) := by decide +kernel
theorem d_JLatin1_indexOf_4 : decode b_JLatin1_indexOf 4 = .ok (.ifCond .ne 5, 3) := by decide +kernel
theorem d_JLatin1_indexOf_7 : decode b_JLatin1_indexOf 7 = .ok (.iconst (-1), 1) := by decide +kernel
theorem d_JLatin1_indexOf_8 : decode b_JLatin1_indexOf 8 = .ok (.ireturn, 1) := by decide +kernel
theorem d_JLatin1_indexOf_9 : decode b_JLatin1_indexOf 9 = .ok (.iload_n 2, 1) := by decide +kernel
theorem d_JLatin1_indexOf_10 : decode b_JLatin1_indexOf 10 = .ok (.iconst 0, 1) := by decide +kernel
theorem d_JLatin1_indexOf_11 : decode b_JLatin1_indexOf 11 = .ok (.invokestatic 92, 3) := by decide +kernel
theorem d_JLatin1_indexOf_14 : decode b_JLatin1_indexOf 14 = .ok (.istore_n 2, 1) := by decide +kernel
theorem d_JLatin1_indexOf_15 : decode b_JLatin1_indexOf 15 = .ok (.iload_n 3, 1) := by decide +kernel
theorem d_JLatin1_indexOf_16 : decode b_JLatin1_indexOf 16 = .ok (.aload_n 0, 1) := by decide +kernel
theorem d_JLatin1_indexOf_17 : decode b_JLatin1_indexOf 17 = .ok (.arraylength, 1) := by decide +kernel
theorem d_JLatin1_indexOf_18 : decode b_JLatin1_indexOf 18 = .ok (.invokestatic 38, 3) := by decide +kernel
theorem d_JLatin1_indexOf_21 : decode b_JLatin1_indexOf 21 = .ok (.istore_n 3, 1) := by decide +kernel
theorem d_JLatin1_indexOf_22 : decode b_JLatin1_indexOf 22 = .ok (.iload_n 2, 1) := by decide +kernel
theorem d_JLatin1_indexOf_23 : decode b_JLatin1_indexOf 23 = .ok (.iload_n 3, 1) := by decide +kernel
theorem d_JLatin1_indexOf_24 : decode b_JLatin1_indexOf 24 = .ok (.if_icmp .lt 5, 3) := by decide +kernel
theorem d_JLatin1_indexOf_27 : decode b_JLatin1_indexOf 27 = .ok (.iconst (-1), 1) := by decide +kernel
theorem d_JLatin1_indexOf_28 : decode b_JLatin1_indexOf 28 = .ok (.ireturn, 1) := by decide +kernel
theorem d_JLatin1_indexOf_29 : decode b_JLatin1_indexOf 29 = .ok (.aload_n 0, 1) := by decide +kernel
theorem d_JLatin1_indexOf_30 : decode b_JLatin1_indexOf 30 = .ok (.iload_n 1, 1) := by decide +kernel
theorem d_JLatin1_indexOf_31 : decode b_JLatin1_indexOf 31 = .ok (.iload_n 2, 1) := by decide +kernel
theorem d_JLatin1_indexOf_32 : decode b_JLatin1_indexOf 32 = .ok (.iload_n 3, 1) := by decide +kernel
theorem d_JLatin1_indexOf_33 : decode b_JLatin1_indexOf 33 = .ok (.invokestatic 95, 3) := by decide +kernel
theorem d_JLatin1_indexOf_36 : decode b_JLatin1_indexOf 36 = .ok (.ireturn, 1) := by decide +kernel
section S_JLatin1_indexOf
variable {p : Program} {l : Launch} {e : Env} {s : State} {m : MethodId} {args : Array Value} {below : List Frame} {meth : Method} {c : Code} {D : va_G} {cA : Nat → ClassId} {ad : Nat → Nat} {nC : Nat} {A : Nat → Prop} {r : Int32} {τ : St}
noncomputable def F_JLatin1_indexOf_0 (v0 : Nat) (v1 : Int32) (v2 : Int32) (v3 : Int32) : Option Int32 := (if ¬ (F_JLatin1_canEncode v1) = 0 then (lt ((if v2 < (0 : Int32) then (0 : Int32) else v2)) (fun w_2 => (lt ((if (nI (SLEN.getD v0 0)) < v3 then (nI (SLEN.getD v0 0)) else v3)) (fun w_3 => (if w_2 < w_3 then (ob1 (F_JLatin1_indexOfChar v0 v1 w_2 w_3) (fun r_5 => (some r_5))) else (some (-1 : Int32))))))) else (some (-1 : Int32)))
set_option maxHeartbeats 4000000 in
set_option maxRecDepth 100000 in
theorem q_JLatin1_indexOf_0 (hn : 0 ≤ nC) (s0 : St) (K : Fx p s m args meth c b_JLatin1_indexOf 4 R_JLatin1 (some .int))  : ∀ (H : Heap) (locs : List Loc) (ls : Array Slot) (v0 : Nat) (v1 : Int32) (v2 : Int32) (v3 : Int32) (g_v0 : v0 < 3), Wh D cA ad (shC.take nC) A s s0 H locs → lv_has ls 4 [(0, .ref (ad (104 + v0))), (1, .int v1), (2, .int v2), (3, .int v3)] → F_JLatin1_indexOf_0 v0 v1 v2 v3 = (some r) → W p l e rm_JLatin1_indexOf s m args below meth c H locs 0 0 (MQ below (QcI D cA ad (shC.take nC) A r s0) args s 0 0 A) (F0 m 0 ls []) := by
  have hx := K.1.1; have hb := K.1.2.1
  intro H locs ls v0 v1 v2 v3 g_v0 hw hl hF
  unfold F_JLatin1_indexOf_0 at hF
  refine lv_iload_n hx hb d_JLatin1_indexOf_0 rfl (lv_at hl 1 rfl) ?_
  refine r_callSI (As := [.int v1]) (rest := []) K hw hl.1 (c_JLatin1_canEncode (l := l) (D := D) (cA := cA) (ad := ad) (s0 := s0) (Nat.le_trans (Nat.le_of_ble_eq_true rfl) hn)  rfl) (tb_gS w_390 w_391 w_70 w_392) a_JLatin1_canEncode ⟨rfl, rfl, Nat.le_of_ble_eq_true rfl, Nat.le_of_ble_eq_true rfl⟩ rfl rfl (Nat.le_of_ble_eq_true rfl) d_JLatin1_indexOf_1 (fun H locs hw => ?_)
  refine lv_if_ne (tgt := 9) hx hb d_JLatin1_indexOf_4 (by decide) (fun c_1 => ?_) (fun c_1 => ?_)
  · replace hF := ifT hF c_1
    refine lv_iload_n hx hb d_JLatin1_indexOf_9 rfl (lv_at hl 2 rfl) ?_
    refine lv_iconst (v := 0) hx hb d_JLatin1_indexOf_10 (by decide) ?_
    refine va_mmax (rest := []) hx hb (K.1.2.2.1.trans hl.1.symm) K.1.2.2.2.1 (K.1.2.2.2.2 _ w_393) (K.1.2.2.2.2 _ w_394) (K.1.2.2.2.2 _ w_75) (K.1.2.2.2.2 _ w_395) (Nat.le_of_ble_eq_true rfl) (Nat.le_of_ble_eq_true rfl) (Nat.zero_le _) (Nat.zero_le _) d_JLatin1_indexOf_11 ?_
    refine lv_topi (fun w_2 f_w_2 => ?_)
    replace hF := ltN hF f_w_2
    refine lv_istore_n (lv' := [(2, .int w_2), (0, .ref (ad (104 + v0))), (1, .int v1), (3, .int v3)]) hx hb d_JLatin1_indexOf_14 rfl hl (by decide) rfl (fun ls hl => ?_)
    refine lv_iload_n hx hb d_JLatin1_indexOf_15 rfl (lv_at hl 3 rfl) ?_
    refine lv_aload_n hx hb d_JLatin1_indexOf_16 rfl (lv_at hl 1 rfl) ?_
    refine k_blen K hw g_v0 d_JLatin1_indexOf_17 ?_
    refine va_mmin (rest := []) hx hb (K.1.2.2.1.trans hl.1.symm) K.1.2.2.2.1 (K.1.2.2.2.2 _ w_396) (K.1.2.2.2.2 _ w_397) (K.1.2.2.2.2 _ w_75) (K.1.2.2.2.2 _ w_398) (Nat.le_of_ble_eq_true rfl) (Nat.le_of_ble_eq_true rfl) (Nat.zero_le _) (Nat.zero_le _) d_JLatin1_indexOf_18 ?_
    refine lv_topi (fun w_3 f_w_3 => ?_)
    replace hF := ltN hF f_w_3
    refine lv_istore_n (lv' := [(3, .int w_3), (2, .int w_2), (0, .ref (ad (104 + v0))), (1, .int v1)]) hx hb d_JLatin1_indexOf_21 rfl hl (by decide) rfl (fun ls hl => ?_)
    refine lv_iload_n hx hb d_JLatin1_indexOf_22 rfl (lv_at hl 1 rfl) ?_
    refine lv_iload_n hx hb d_JLatin1_indexOf_23 rfl (lv_at hl 0 rfl) ?_
    refine lv_icmp_lt (tgt := 29) hx hb d_JLatin1_indexOf_24 (by decide) (fun c_4 => ?_) (fun c_4 => ?_)
    · replace hF := ifT hF c_4
      refine lv_aload_n hx hb d_JLatin1_indexOf_29 rfl (lv_at hl 2 rfl) ?_
      refine lv_iload_n hx hb d_JLatin1_indexOf_30 rfl (lv_at hl 3 rfl) ?_
      refine lv_iload_n hx hb d_JLatin1_indexOf_31 rfl (lv_at hl 1 rfl) ?_
      refine lv_iload_n hx hb d_JLatin1_indexOf_32 rfl (lv_at hl 0 rfl) ?_
      obtain ⟨r_5, h_r_5, hF⟩ := ob1E hF
      refine r_callSI (As := [.ref (ad (104 + v0)), .int v1, .int w_2, .int w_3]) (rest := []) K hw hl.1 (c_JLatin1_indexOfChar (l := l) (D := D) (cA := cA) (ad := ad) (s0 := s0) (Nat.le_trans (Nat.le_of_ble_eq_true rfl) hn) g_v0 h_r_5) (tb_gS w_399 w_400 w_70 w_401) a_JLatin1_indexOfChar ⟨rfl, rfl, Nat.le_of_ble_eq_true rfl, Nat.le_of_ble_eq_true rfl⟩ rfl rfl (Nat.le_of_ble_eq_true rfl) d_JLatin1_indexOf_33 (fun H locs hw => ?_)
      replace hF := sE1 hF
      subst hF
      exact r_iret K hw d_JLatin1_indexOf_36
    · replace hF := ifF hF c_4
      refine lv_iconst (v := -1) hx hb d_JLatin1_indexOf_27 (by decide) ?_
      replace hF := sE1 hF
      subst hF
      exact r_iret K hw d_JLatin1_indexOf_28
  · replace hF := ifN hF c_1
    refine lv_iconst (v := -1) hx hb d_JLatin1_indexOf_7 (by decide) ?_
    replace hF := sE1 hF
    subst hF
    exact r_iret K hw d_JLatin1_indexOf_8
end S_JLatin1_indexOf
noncomputable abbrev F_JLatin1_indexOf := F_JLatin1_indexOf_0
theorem c_JLatin1_indexOf {l : Launch} {D : va_G} {cA : Nat → ClassId} {ad : Nat → Nat} {s0 : St} {nC : Nat} (hn : 0 ≤ nC) {r : Int32} {v0 : Nat} {v1 : Int32} {v2 : Int32} {v3 : Int32} (g_v0 : v0 < 3) (hF : F_JLatin1_indexOf v0 v1 v2 v3 = (some r)) : MI l D cA ad (shC.take nC) y_JLatin1_indexOf (wT y_JLatin1_indexOf b_JLatin1_indexOf 4 (some .int)) rm_JLatin1_indexOf [.ref (ad (104 + v0)), .int v1, .int v2, .int v3] s0 r s0 := fun sz => m_start (Qc := fun A => QcI D cA ad (shC.take nC) A r s0) (by decide +kernel) w_389 (Nat.le_of_ble_eq_true rfl) (fun p e s m below meth c ls K hl hw => q_JLatin1_indexOf_0 hn s0 K _ _ _ _ _ _ _ g_v0 hw hl hF)

/-! JString.indexOf(II)I -/
abbrev b_JString_indexFrom : ByteArray := prog_17_method_80_code
def y_JString_indexFrom : MethodName := ⟨R_JString, "indexOf", "(II)I"⟩
theorem a_JString_indexFrom : y_JString_indexFrom.cls = R_JString ∧ y_JString_indexFrom.cls ≠ "java/lang/invoke/MethodHandle" ∧ y_JString_indexFrom.cls ≠ "java/lang/invoke/VarHandle" ∧ (parseMethodDescriptor y_JString_indexFrom.desc).map (fun d => d.parameters.length) = some 2 := by decide +kernel
abbrev rm_JString_indexFrom : Room := { frames := 2, cells := 0, slots := 0, locals := 63 }
theorem w_238 : Cond.methodLink R_JString 492 y_JString_isLatin1 ∈ TB := tb_in 238 (by decide +kernel) (by decide +kernel)
theorem w_239 : Cond.instanceMethod y_JString_isLatin1 ∈ TB := tb_in 239 (by decide +kernel) (by decide +kernel)
theorem w_240 : Cond.selects R_JString y_JString_isLatin1 y_JString_isLatin1 ∈ TB := tb_in 240 (by decide +kernel) (by decide +kernel)
theorem w_386 : Cond.methodLink R_JString 505 y_JString_length ∈ TB := tb_in 386 (by decide +kernel) (by decide +kernel)
theorem w_225 : Cond.instanceMethod y_JString_length ∈ TB := tb_in 225 (by decide +kernel) (by decide +kernel)
theorem w_226 : Cond.selects R_JString y_JString_length y_JString_length ∈ TB := tb_in 226 (by decide +kernel) (by decide +kernel)
theorem w_387 : Cond.methodLink R_JString 637 y_JLatin1_indexOf ∈ TB := tb_in 387 (by decide +kernel) (by decide +kernel)
theorem w_388 : Cond.static y_JLatin1_indexOf ∈ TB := tb_in 388 (by decide +kernel) (by decide +kernel)
theorem w_385 : Cond.code y_JString_indexFrom b_JString_indexFrom 3 (some .int) ∈ TB := tb_in 385 (by decide +kernel) (by decide +kernel)
theorem d_JString_indexFrom_0 : decode b_JString_indexFrom 0 = .ok (.aload_n 0, 1) := by decide +kernel
theorem d_JString_indexFrom_1 : decode b_JString_indexFrom 1 = .ok (.invokevirtual 492, 3) := by decide +kernel
theorem d_JString_indexFrom_4 : decode b_JString_indexFrom 4 = .ok (.ifCond .eq 19, 3) := by decide +kernel
theorem d_JString_indexFrom_7 : decode b_JString_indexFrom 7 = .ok (.aload_n 0, 1) := by decide +kernel
theorem d_JString_indexFrom_8 : decode b_JString_indexFrom 8 = .ok (.getfield 9, 3) := by decide +kernel
theorem d_JString_indexFrom_11 : decode b_JString_indexFrom 11 = .ok (.iload_n 1, 1) := by decide +kernel
theorem d_JString_indexFrom_12 : decode b_JString_indexFrom 12 = .ok (.iload_n 2, 1) := by decide +kernel
theorem d_JString_indexFrom_13 : decode b_JString_indexFrom 13 = .ok (.aload_n 0, 1) := by decide +kernel
theorem d_JString_indexFrom_14 : decode b_JString_indexFrom 14 = .ok (.invokevirtual 505, 3) := by decide +kernel
theorem d_JString_indexFrom_17 : decode b_JString_indexFrom 17 = .ok (.invokestatic 637, 3) := by decide +kernel
theorem d_JString_indexFrom_20 : decode b_JString_indexFrom 20 = .ok (.goto 16, 3) := by decide +kernel
theorem d_JString_indexFrom_23 : decode b_JString_indexFrom 23 = .ok (.aload_n 0, 1) := by decide +kernel
theorem d_JString_indexFrom_24 : decode b_JString_indexFrom 24 = .ok (.getfield 9, 3) := by decide +kernel
theorem d_JString_indexFrom_27 : decode b_JString_indexFrom 27 = .ok (.iload_n 1, 1) := by decide +kernel
theorem d_JString_indexFrom_28 : decode b_JString_indexFrom 28 = .ok (.iload_n 2, 1) := by decide +kernel
theorem d_JString_indexFrom_29 : decode b_JString_indexFrom 29 = .ok (.aload_n 0, 1) := by decide +kernel
theorem d_JString_indexFrom_30 : decode b_JString_indexFrom 30 = .ok (.invokevirtual 505, 3) := by decide +kernel
theorem d_JString_indexFrom_36 : decode b_JString_indexFrom 36 = .ok (.ireturn, 1) := by decide +kernel
section S_JString_indexFrom
variable {p : Program} {l : Launch} {e : Env} {s : State} {m : MethodId} {args : Array Value} {below : List Frame} {meth : Method} {c : Code} {D : va_G} {cA : Nat → ClassId} {ad : Nat → Nat} {nC : Nat} {A : Nat → Prop} {r : Int32} {τ : St}
noncomputable def F_JString_indexFrom_0 (v0 : Nat) (v1 : Int32) (v2 : Int32) : Option Int32 := (if (F_JString_isLatin1 v0) = 0 then none else (ob1 (F_JLatin1_indexOf v0 v1 v2 (F_JString_length v0)) (fun r_2 => (some r_2))))
set_option maxHeartbeats 4000000 in
set_option maxRecDepth 100000 in
theorem q_JString_indexFrom_0 (hn : 0 ≤ nC) (s0 : St) (K : Fx p s m args meth c b_JString_indexFrom 3 R_JString (some .int))  : ∀ (H : Heap) (locs : List Loc) (ls : Array Slot) (v0 : Nat) (v1 : Int32) (v2 : Int32) (g_v0 : v0 < 3), Wh D cA ad (shC.take nC) A s s0 H locs → lv_has ls 3 [(0, .ref (ad (101 + v0))), (1, .int v1), (2, .int v2)] → F_JString_indexFrom_0 v0 v1 v2 = (some r) → W p l e rm_JString_indexFrom s m args below meth c H locs 0 0 (MQ below (QcI D cA ad (shC.take nC) A r s0) args s 0 0 A) (F0 m 0 ls []) := by
  have hx := K.1.1; have hb := K.1.2.1
  intro H locs ls v0 v1 v2 g_v0 hw hl hF
  unfold F_JString_indexFrom_0 at hF
  refine lv_aload_n hx hb d_JString_indexFrom_0 rfl (lv_at hl 0 rfl) ?_
  refine k_callVI (As := []) (rest := []) K hw hl.1 (c_JString_isLatin1 (l := l) (D := D) (cA := cA) (ad := ad) (s0 := s0) (Nat.le_trans (Nat.le_of_ble_eq_true rfl) hn) g_v0 rfl) g_v0 (tb_gV w_238 w_239 w_240 w_69 w_241) a_JString_isLatin1 ⟨rfl, rfl, Nat.le_of_ble_eq_true rfl, Nat.le_of_ble_eq_true rfl⟩ rfl rfl (Nat.le_of_ble_eq_true rfl) d_JString_indexFrom_1 (fun H locs hw => ?_)
  refine lv_if_eq (tgt := 23) hx hb d_JString_indexFrom_4 (by decide) (fun c_1 => ?_) (fun c_1 => ?_)
  · replace hF := ifT hF c_1
    refine lv_aload_n hx hb d_JString_indexFrom_23 rfl (lv_at hl 0 rfl) ?_
    refine k_val K hw g_v0 w_1415 d_JString_indexFrom_24 ?_
    refine lv_iload_n hx hb d_JString_indexFrom_27 rfl (lv_at hl 1 rfl) ?_
    refine lv_iload_n hx hb d_JString_indexFrom_28 rfl (lv_at hl 2 rfl) ?_
    refine lv_aload_n hx hb d_JString_indexFrom_29 rfl (lv_at hl 0 rfl) ?_
    refine k_callVI (As := []) (rest := [.int v2, .int v1, .ref (ad (104 + v0))]) K hw hl.1 (c_JString_length (l := l) (D := D) (cA := cA) (ad := ad) (s0 := s0) (Nat.le_trans (Nat.le_of_ble_eq_true rfl) hn) g_v0 rfl) g_v0 (tb_gV w_386 w_225 w_226 w_69 w_227) a_JString_length ⟨rfl, rfl, Nat.le_of_ble_eq_true rfl, Nat.le_of_ble_eq_true rfl⟩ rfl rfl (Nat.le_of_ble_eq_true rfl) d_JString_indexFrom_30 (fun H locs hw => ?_)
    cases hF
  · replace hF := ifF hF c_1
    refine lv_aload_n hx hb d_JString_indexFrom_7 rfl (lv_at hl 0 rfl) ?_
    refine k_val K hw g_v0 w_1415 d_JString_indexFrom_8 ?_
    refine lv_iload_n hx hb d_JString_indexFrom_11 rfl (lv_at hl 1 rfl) ?_
    refine lv_iload_n hx hb d_JString_indexFrom_12 rfl (lv_at hl 2 rfl) ?_
    refine lv_aload_n hx hb d_JString_indexFrom_13 rfl (lv_at hl 0 rfl) ?_
    refine k_callVI (As := []) (rest := [.int v2, .int v1, .ref (ad (104 + v0))]) K hw hl.1 (c_JString_length (l := l) (D := D) (cA := cA) (ad := ad) (s0 := s0) (Nat.le_trans (Nat.le_of_ble_eq_true rfl) hn) g_v0 rfl) g_v0 (tb_gV w_386 w_225 w_226 w_69 w_227) a_JString_length ⟨rfl, rfl, Nat.le_of_ble_eq_true rfl, Nat.le_of_ble_eq_true rfl⟩ rfl rfl (Nat.le_of_ble_eq_true rfl) d_JString_indexFrom_14 (fun H locs hw => ?_)
    obtain ⟨r_2, h_r_2, hF⟩ := ob1E hF
    refine k_callTI (As := [.ref (ad (104 + v0)), .int v1, .int v2, .int (F_JString_length v0)]) (rest := []) K hw hl.1 (c_JLatin1_indexOf (l := l) (D := D) (cA := cA) (ad := ad) (s0 := s0) (Nat.le_trans (Nat.le_of_ble_eq_true rfl) hn) g_v0 h_r_2) w_387 w_388 w_70 w_389 a_JLatin1_indexOf.2 ⟨rfl, rfl, Nat.le_of_ble_eq_true rfl, Nat.le_of_ble_eq_true rfl⟩ rfl rfl (Nat.le_of_ble_eq_true rfl) d_JString_indexFrom_17 (fun H locs hw => ?_)
    refine lv_goto (tgt := 36) hx hb d_JString_indexFrom_20 (by decide) ?_
    replace hF := sE1 hF
    subst hF
    exact r_iret K hw d_JString_indexFrom_36
end S_JString_indexFrom
noncomputable abbrev F_JString_indexFrom := F_JString_indexFrom_0
theorem c_JString_indexFrom {l : Launch} {D : va_G} {cA : Nat → ClassId} {ad : Nat → Nat} {s0 : St} {nC : Nat} (hn : 0 ≤ nC) {r : Int32} {v0 : Nat} {v1 : Int32} {v2 : Int32} (g_v0 : v0 < 3) (hF : F_JString_indexFrom v0 v1 v2 = (some r)) : MI l D cA ad (shC.take nC) y_JString_indexFrom (wT y_JString_indexFrom b_JString_indexFrom 3 (some .int)) rm_JString_indexFrom [.ref (ad (101 + v0)), .int v1, .int v2] s0 r s0 := fun sz => m_start (Qc := fun A => QcI D cA ad (shC.take nC) A r s0) (by decide +kernel) w_385 (Nat.le_of_ble_eq_true rfl) (fun p e s m below meth c ls K hl hw => q_JString_indexFrom_0 hn s0 K _ _ _ _ _ _ g_v0 hw hl hF)

/-! JString.indexOf(I)I -/
abbrev b_JString_indexOf : ByteArray := prog_17_method_79_code
def y_JString_indexOf : MethodName := ⟨R_JString, "indexOf", "(I)I"⟩
theorem a_JString_indexOf : y_JString_indexOf.cls = R_JString ∧ y_JString_indexOf.cls ≠ "java/lang/invoke/MethodHandle" ∧ y_JString_indexOf.cls ≠ "java/lang/invoke/VarHandle" ∧ (parseMethodDescriptor y_JString_indexOf.desc).map (fun d => d.parameters.length) = some 1 := by decide +kernel
abbrev rm_JString_indexOf : Room := { frames := 3, cells := 0, slots := 0, locals := 85 }
theorem w_382 : Cond.methodLink R_JString 633 y_JString_indexFrom ∈ TB := tb_in 382 (by decide +kernel) (by decide +kernel)
theorem w_383 : Cond.instanceMethod y_JString_indexFrom ∈ TB := tb_in 383 (by decide +kernel) (by decide +kernel)
theorem w_384 : Cond.selects R_JString y_JString_indexFrom y_JString_indexFrom ∈ TB := tb_in 384 (by decide +kernel) (by decide +kernel)
theorem w_381 : Cond.code y_JString_indexOf b_JString_indexOf 2 (some .int) ∈ TB := tb_in 381 (by decide +kernel) (by decide +kernel)
theorem d_JString_indexOf_0 : decode b_JString_indexOf 0 = .ok (.aload_n 0, 1) := by decide +kernel
theorem d_JString_indexOf_1 : decode b_JString_indexOf 1 = .ok (.iload_n 1, 1) := by decide +kernel
theorem d_JString_indexOf_2 : decode b_JString_indexOf 2 = .ok (.iconst 0, 1) := by decide +kernel
theorem d_JString_indexOf_3 : decode b_JString_indexOf 3 = .ok (.invokevirtual 633, 3) := by decide +kernel
theorem d_JString_indexOf_6 : decode b_JString_indexOf 6 = .ok (.ireturn, 1) := by decide +kernel
section S_JString_indexOf
variable {p : Program} {l : Launch} {e : Env} {s : State} {m : MethodId} {args : Array Value} {below : List Frame} {meth : Method} {c : Code} {D : va_G} {cA : Nat → ClassId} {ad : Nat → Nat} {nC : Nat} {A : Nat → Prop} {r : Int32} {τ : St}
noncomputable def F_JString_indexOf_0 (v0 : Nat) (v1 : Int32) : Option Int32 := (ob1 (F_JString_indexFrom v0 v1 (0 : Int32)) (fun r_1 => (some r_1)))
set_option maxHeartbeats 4000000 in
set_option maxRecDepth 100000 in
theorem q_JString_indexOf_0 (hn : 0 ≤ nC) (s0 : St) (K : Fx p s m args meth c b_JString_indexOf 2 R_JString (some .int))  : ∀ (H : Heap) (locs : List Loc) (ls : Array Slot) (v0 : Nat) (v1 : Int32) (g_v0 : v0 < 3), Wh D cA ad (shC.take nC) A s s0 H locs → lv_has ls 2 [(0, .ref (ad (101 + v0))), (1, .int v1)] → F_JString_indexOf_0 v0 v1 = (some r) → W p l e rm_JString_indexOf s m args below meth c H locs 0 0 (MQ below (QcI D cA ad (shC.take nC) A r s0) args s 0 0 A) (F0 m 0 ls []) := by
  have hx := K.1.1; have hb := K.1.2.1
  intro H locs ls v0 v1 g_v0 hw hl hF
  unfold F_JString_indexOf_0 at hF
  refine lv_aload_n hx hb d_JString_indexOf_0 rfl (lv_at hl 0 rfl) ?_
  refine lv_iload_n hx hb d_JString_indexOf_1 rfl (lv_at hl 1 rfl) ?_
  refine lv_iconst (v := 0) hx hb d_JString_indexOf_2 (by decide) ?_
  obtain ⟨r_1, h_r_1, hF⟩ := ob1E hF
  refine k_callVI (As := [.int v1, .int (0 : Int32)]) (rest := []) K hw hl.1 (c_JString_indexFrom (l := l) (D := D) (cA := cA) (ad := ad) (s0 := s0) (Nat.le_trans (Nat.le_of_ble_eq_true rfl) hn) g_v0 h_r_1) g_v0 (tb_gV w_382 w_383 w_384 w_69 w_385) a_JString_indexFrom ⟨rfl, rfl, Nat.le_of_ble_eq_true rfl, Nat.le_of_ble_eq_true rfl⟩ rfl rfl (Nat.le_of_ble_eq_true rfl) d_JString_indexOf_3 (fun H locs hw => ?_)
  replace hF := sE1 hF
  subst hF
  exact r_iret K hw d_JString_indexOf_6
end S_JString_indexOf
noncomputable abbrev F_JString_indexOf := F_JString_indexOf_0
theorem c_JString_indexOf {l : Launch} {D : va_G} {cA : Nat → ClassId} {ad : Nat → Nat} {s0 : St} {nC : Nat} (hn : 0 ≤ nC) {r : Int32} {v0 : Nat} {v1 : Int32} (g_v0 : v0 < 3) (hF : F_JString_indexOf v0 v1 = (some r)) : MI l D cA ad (shC.take nC) y_JString_indexOf (wT y_JString_indexOf b_JString_indexOf 2 (some .int)) rm_JString_indexOf [.ref (ad (101 + v0)), .int v1] s0 r s0 := fun sz => m_start (Qc := fun A => QcI D cA ad (shC.take nC) A r s0) (by decide +kernel) w_381 (Nat.le_of_ble_eq_true rfl) (fun p e s m below meth c ls K hl hw => q_JString_indexOf_0 hn s0 K _ _ _ _ _ g_v0 hw hl hF)

/-! Tokens.takeSign()V -/
abbrev b_Tokens_takeSign : ByteArray := prog_11_method_10_code
def y_Tokens_takeSign : MethodName := ⟨R_Tokens, "takeSign", "()V"⟩
theorem a_Tokens_takeSign : y_Tokens_takeSign.cls = R_Tokens ∧ y_Tokens_takeSign.cls ≠ "java/lang/invoke/MethodHandle" ∧ y_Tokens_takeSign.cls ≠ "java/lang/invoke/VarHandle" ∧ (parseMethodDescriptor y_Tokens_takeSign.desc).map (fun d => d.parameters.length) = some 0 := by decide +kernel
abbrev rm_Tokens_takeSign : Room := { frames := 4, cells := 0, slots := 0, locals := 106 }
theorem w_378 : Cond.methodLink R_Tokens 80 y_JString_indexOf ∈ TB := tb_in 378 (by decide +kernel) (by decide +kernel)
theorem w_379 : Cond.instanceMethod y_JString_indexOf ∈ TB := tb_in 379 (by decide +kernel) (by decide +kernel)
theorem w_380 : Cond.selects R_JString y_JString_indexOf y_JString_indexOf ∈ TB := tb_in 380 (by decide +kernel) (by decide +kernel)
theorem w_376 : Cond.code y_Tokens_takeSign b_Tokens_takeSign 2 none ∈ TB := tb_in 376 (by decide +kernel) (by decide +kernel)
theorem d_Tokens_takeSign_0 : decode b_Tokens_takeSign 0 = .ok (.aload_n 0, 1) := by decide +kernel
theorem d_Tokens_takeSign_1 : decode b_Tokens_takeSign 1 = .ok (.getfield 21, 3) := by decide +kernel
theorem d_Tokens_takeSign_4 : decode b_Tokens_takeSign 4 = .ok (.aload_n 0, 1) := by decide +kernel
theorem d_Tokens_takeSign_5 : decode b_Tokens_takeSign 5 = .ok (.getfield 29, 3) := by decide +kernel
theorem d_Tokens_takeSign_8 : decode b_Tokens_takeSign 8 = .ok (.invokevirtual 74, 3) := by decide +kernel
theorem d_Tokens_takeSign_11 : decode b_Tokens_takeSign 11 = .ok (.istore_n 1, 1) := by decide +kernel
theorem d_Tokens_takeSign_12 : decode b_Tokens_takeSign 12 = .ok (.aload_n 0, 1) := by decide +kernel
theorem d_Tokens_takeSign_13 : decode b_Tokens_takeSign 13 = .ok (.ldc 78, 2) := by decide +kernel
theorem d_Tokens_takeSign_15 : decode b_Tokens_takeSign 15 = .ok (.iload_n 1, 1) := by decide +kernel
theorem d_Tokens_takeSign_16 : decode b_Tokens_takeSign 16 = .ok (.i2c, 1) := by decide +kernel
theorem d_Tokens_takeSign_17 : decode b_Tokens_takeSign 17 = .ok (.invokevirtual 80, 3) := by decide +kernel
theorem d_Tokens_takeSign_20 : decode b_Tokens_takeSign 20 = .ok (.ifCond .lt 7, 3) := by decide +kernel
theorem d_Tokens_takeSign_23 : decode b_Tokens_takeSign 23 = .ok (.iload_n 1, 1) := by decide +kernel
theorem d_Tokens_takeSign_24 : decode b_Tokens_takeSign 24 = .ok (.goto 4, 3) := by decide +kernel
theorem d_Tokens_takeSign_27 : decode b_Tokens_takeSign 27 = .ok (.iconst 1, 1) := by decide +kernel
theorem d_Tokens_takeSign_28 : decode b_Tokens_takeSign 28 = .ok (.iconst 0, 1) := by decide +kernel
theorem d_Tokens_takeSign_29 : decode b_Tokens_takeSign 29 = .ok (.aload_n 0, 1) := by decide +kernel
theorem d_Tokens_takeSign_30 : decode b_Tokens_takeSign 30 = .ok (.getfield 29, 3) := by decide +kernel
theorem d_Tokens_takeSign_33 : decode b_Tokens_takeSign 33 = .ok (.invokevirtual 54, 3) := by decide +kernel
theorem d_Tokens_takeSign_36 : decode b_Tokens_takeSign 36 = .ok (.aload_n 0, 1) := by decide +kernel
theorem d_Tokens_takeSign_37 : decode b_Tokens_takeSign 37 = .ok (.dup, 1) := by decide +kernel
theorem d_Tokens_takeSign_38 : decode b_Tokens_takeSign 38 = .ok (.getfield 29, 3) := by decide +kernel
theorem d_Tokens_takeSign_41 : decode b_Tokens_takeSign 41 = .ok (.iconst 1, 1) := by decide +kernel
theorem d_Tokens_takeSign_42 : decode b_Tokens_takeSign 42 = .ok (.iadd, 1) := by decide +kernel
theorem d_Tokens_takeSign_43 : decode b_Tokens_takeSign 43 = .ok (.putfield 29, 3) := by decide +kernel
theorem d_Tokens_takeSign_46 : decode b_Tokens_takeSign 46 = .ok (.return_, 1) := by decide +kernel
section S_Tokens_takeSign
variable {p : Program} {l : Launch} {e : Env} {s : State} {m : MethodId} {args : Array Value} {below : List Frame} {meth : Method} {c : Code} {D : va_G} {cA : Nat → ClassId} {ad : Nat → Nat} {nC : Nat} {A : Nat → Prop} {τ : St}
noncomputable def F_Tokens_takeSign_28 (s0 : St) (t1 : Int32) : Option St := (ob1 (F_Tokens_add s0 t1 (0 : Int32) (s0.1 3 5)) (fun s_4 => (lt (up1 s_4 3 5 ((s_4.1 3 5) + (1 : Int32))) (fun s_5 => (some s_5)))))
set_option maxHeartbeats 4000000 in
set_option maxRecDepth 100000 in
theorem q_Tokens_takeSign_28 (hn : 7 ≤ nC) (K : Fx p s m args meth c b_Tokens_takeSign 2 R_Tokens none)  : ∀ (H : Heap) (locs : List Loc) (ls : Array Slot) (s0 : St) (t1 : Int32), Wh D cA ad (shC.take nC) A s s0 H locs → lv_has ls 2 [(0, .ref (ad 3))] → F_Tokens_takeSign_28 s0 t1 = (some τ) → W p l e rm_Tokens_takeSign s m args below meth c H locs 0 0 (MQ below (QcV D cA ad (shC.take nC) A τ) args s 0 0 A) (F0 m 28 ls [.int t1, .ref (ad 3)]) := by
  have hx := K.1.1; have hb := K.1.2.1
  intro H locs ls s0 t1 hw hl hF
  unfold F_Tokens_takeSign_28 at hF
  refine lv_iconst (v := 0) hx hb d_Tokens_takeSign_28 (by decide) ?_
  refine lv_aload_n hx hb d_Tokens_takeSign_29 rfl (lv_at hl 0 rfl) ?_
  refine r_get (v := .int (s0.1 3 5)) K hw i_Tokens (sh_Tokens (Nat.le_trans (Nat.le_of_ble_eq_true rfl) hn)) rfl 5 (by decide) w_293 rfl rfl rfl d_Tokens_takeSign_30 ?_
  obtain ⟨s_4, h_s_4, hF⟩ := ob1E hF
  refine r_callVV (As := [.int t1, .int (0 : Int32), .int (s0.1 3 5)]) (rest := []) K hw hl.1 (c_Tokens_add (l := l) (D := D) (cA := cA) (ad := ad) (s0 := s0) (Nat.le_trans (Nat.le_of_ble_eq_true rfl) hn)  h_s_4) (sh_Tokens (Nat.le_trans (Nat.le_of_ble_eq_true rfl) hn)) rfl (tb_gV w_361 w_363 w_2 w_74 w_364) a_Tokens_add ⟨rfl, rfl, Nat.le_of_ble_eq_true rfl, Nat.le_of_ble_eq_true rfl⟩ rfl rfl (Nat.le_of_ble_eq_true rfl) d_Tokens_takeSign_33 (fun H locs hw => ?_)
  refine lv_aload_n hx hb d_Tokens_takeSign_36 rfl (lv_at hl 0 rfl) ?_
  refine lv_dup hx hb d_Tokens_takeSign_37 rfl ?_
  refine r_get (v := .int (s_4.1 3 5)) K hw i_Tokens (sh_Tokens (Nat.le_trans (Nat.le_of_ble_eq_true rfl) hn)) rfl 5 (by decide) w_293 rfl rfl rfl d_Tokens_takeSign_38 ?_
  refine lv_iconst (v := 1) hx hb d_Tokens_takeSign_41 (by decide) ?_
  refine lv_iadd hx hb d_Tokens_takeSign_42 ?_
  refine r_putI K hw i_Tokens t_Tokens t_Tokens_ok n_Tokens (sh_Tokens (Nat.le_trans (Nat.le_of_ble_eq_true rfl) hn)) rfl 5 (by decide) w_293 rfl rfl rfl rfl rfl d_Tokens_takeSign_43 (fun s_5 f_s_5 H locs hw => ?_)
  replace hF := ltN hF f_s_5
  replace hF := sE1 hF
  subst hF
  exact r_vret K hw d_Tokens_takeSign_46
noncomputable def F_Tokens_takeSign_0 (s0 : St) : Option St := (ob1 (F_Tape_at s0 (s0.1 3 5)) (fun r_1 => (ob1 (F_JString_indexOf 2 ((r_1.toUInt32 % 65536).toInt32)) (fun r_2 => (if r_2 < 0 then (F_Tokens_takeSign_28 s0 (1 : Int32)) else (F_Tokens_takeSign_28 s0 r_1))))))
set_option maxHeartbeats 4000000 in
set_option maxRecDepth 100000 in
theorem q_Tokens_takeSign_0 (hn : 7 ≤ nC) (K : Fx p s m args meth c b_Tokens_takeSign 2 R_Tokens none)  : ∀ (H : Heap) (locs : List Loc) (ls : Array Slot) (s0 : St), Wh D cA ad (shC.take nC) A s s0 H locs → lv_has ls 2 [(0, .ref (ad 3))] → F_Tokens_takeSign_0 s0 = (some τ) → W p l e rm_Tokens_takeSign s m args below meth c H locs 0 0 (MQ below (QcV D cA ad (shC.take nC) A τ) args s 0 0 A) (F0 m 0 ls []) := by
  have hx := K.1.1; have hb := K.1.2.1
  intro H locs ls s0 hw hl hF
  unfold F_Tokens_takeSign_0 at hF
  refine lv_aload_n hx hb d_Tokens_takeSign_0 rfl (lv_at hl 0 rfl) ?_
  refine r_get (v := .ref (ad 0)) K hw i_Tokens (sh_Tokens (Nat.le_trans (Nat.le_of_ble_eq_true rfl) hn)) rfl 0 (by decide) w_288 rfl rfl rfl d_Tokens_takeSign_1 ?_
  refine lv_aload_n hx hb d_Tokens_takeSign_4 rfl (lv_at hl 0 rfl) ?_
  refine r_get (v := .int (s0.1 3 5)) K hw i_Tokens (sh_Tokens (Nat.le_trans (Nat.le_of_ble_eq_true rfl) hn)) rfl 5 (by decide) w_293 rfl rfl rfl d_Tokens_takeSign_5 ?_
  obtain ⟨r_1, h_r_1, hF⟩ := ob1E hF
  refine r_callVI (As := [.int (s0.1 3 5)]) (rest := []) K hw hl.1 (c_Tape_at (l := l) (D := D) (cA := cA) (ad := ad) (s0 := s0) (Nat.le_trans (Nat.le_of_ble_eq_true rfl) hn)  h_r_1) (sh_Tape (Nat.le_trans (Nat.le_of_ble_eq_true rfl) hn)) rfl (tb_gV w_360 w_339 w_340 w_64 w_341) a_Tape_at ⟨rfl, rfl, Nat.le_of_ble_eq_true rfl, Nat.le_of_ble_eq_true rfl⟩ rfl rfl (Nat.le_of_ble_eq_true rfl) d_Tokens_takeSign_8 (fun H locs hw => ?_)
  refine lv_istore_n (lv' := [(1, .int r_1), (0, .ref (ad 3))]) hx hb d_Tokens_takeSign_11 rfl hl (by decide) rfl (fun ls hl => ?_)
  refine lv_aload_n hx hb d_Tokens_takeSign_12 rfl (lv_at hl 1 rfl) ?_
  refine k_ldc2 K hw d_Tokens_takeSign_13 ?_
  refine lv_iload_n hx hb d_Tokens_takeSign_15 rfl (lv_at hl 0 rfl) ?_
  refine lv_i2c (v := (r_1.toUInt32 % 65536).toInt32) hx hb d_Tokens_takeSign_16 rfl ?_
  obtain ⟨r_2, h_r_2, hF⟩ := ob1E hF
  refine k_callVI (As := [.int ((r_1.toUInt32 % 65536).toInt32)]) (rest := [.ref (ad 3)]) K hw hl.1 (c_JString_indexOf (l := l) (D := D) (cA := cA) (ad := ad) (s0 := s0) (Nat.le_trans (Nat.le_of_ble_eq_true rfl) hn) (by decide) h_r_2) (by decide) (tb_gV w_378 w_379 w_380 w_69 w_381) a_JString_indexOf ⟨rfl, rfl, Nat.le_of_ble_eq_true rfl, Nat.le_of_ble_eq_true rfl⟩ rfl rfl (Nat.le_of_ble_eq_true rfl) d_Tokens_takeSign_17 (fun H locs hw => ?_)
  refine lv_if_lt (tgt := 27) hx hb d_Tokens_takeSign_20 (by decide) (fun c_3 => ?_) (fun c_3 => ?_)
  · replace hF := ifT hF c_3
    refine lv_iconst (v := 1) hx hb d_Tokens_takeSign_27 (by decide) ?_
    exact q_Tokens_takeSign_28 hn K _ _ _ _ _  hw (lv_sub hl [1] rfl) hF
  · replace hF := ifF hF c_3
    refine lv_iload_n hx hb d_Tokens_takeSign_23 rfl (lv_at hl 0 rfl) ?_
    refine lv_goto (tgt := 28) hx hb d_Tokens_takeSign_24 (by decide) ?_
    exact q_Tokens_takeSign_28 hn K _ _ _ _ _  hw (lv_sub hl [1] rfl) hF
end S_Tokens_takeSign
noncomputable abbrev F_Tokens_takeSign := F_Tokens_takeSign_0
theorem c_Tokens_takeSign {l : Launch} {D : va_G} {cA : Nat → ClassId} {ad : Nat → Nat} {s0 τ : St} {nC : Nat} (hn : 7 ≤ nC)   (hF : F_Tokens_takeSign s0 = (some τ)) : MV l D cA ad (shC.take nC) y_Tokens_takeSign (wT y_Tokens_takeSign b_Tokens_takeSign 2 none) rm_Tokens_takeSign [.ref (ad 3)] s0 τ := fun sz => m_start (Qc := fun A => QcV D cA ad (shC.take nC) A τ) (by decide +kernel) w_376 (Nat.le_of_ble_eq_true rfl) (fun p e s m below meth c ls K hl hw => q_Tokens_takeSign_0 hn K _ _ _ _   hw hl hF)

/-! JPrecond.checkIndex(IILjava/util/function/BiFunction;)I -/
abbrev b_JPrecond_checkIndex : ByteArray := prog_21_method_11_code
def y_JPrecond_checkIndex : MethodName := ⟨R_JPrecond, "checkIndex", "(IILjava/util/function/BiFunction;)I"⟩
theorem a_JPrecond_checkIndex : y_JPrecond_checkIndex.cls = R_JPrecond ∧ y_JPrecond_checkIndex.cls ≠ "java/lang/invoke/MethodHandle" ∧ y_JPrecond_checkIndex.cls ≠ "java/lang/invoke/VarHandle" ∧ (parseMethodDescriptor y_JPrecond_checkIndex.desc).map (fun d => d.parameters.length) = some 3 := by decide +kernel
abbrev rm_JPrecond_checkIndex : Room := { frames := 0, cells := 0, slots := 0, locals := 0 }
theorem w_252 : Cond.code y_JPrecond_checkIndex b_JPrecond_checkIndex 3 (some .int) ∈ TB := tb_in 252 (by decide +kernel) (by decide +kernel)
theorem d_JPrecond_checkIndex_0 : decode b_JPrecond_checkIndex 0 = .ok (.iload_n 0, 1) := by decide +kernel
theorem d_JPrecond_checkIndex_1 : decode b_JPrecond_checkIndex 1 = .ok (.ifCond .lt 8, 3) := by decide +kernel
theorem d_JPrecond_checkIndex_4 : decode b_JPrecond_checkIndex 4 = .ok (.iload_n 0, 1) := by decide +kernel
theorem d_JPrecond_checkIndex_5 : decode b_JPrecond_checkIndex 5 = .ok (.iload_n 1, 1) := by decide +kernel
theorem d_JPrecond_checkIndex_6 : decode b_JPrecond_checkIndex 6 = .ok (.if_icmp .lt 10, 3) := by decide +kernel
theorem d_JPrecond_checkIndex_9 : decode b_JPrecond_checkIndex 9 = .ok (.aload_n 2, 1) := by decide +kernel
theorem d_JPrecond_checkIndex_16 : decode b_JPrecond_checkIndex 16 = .ok (.iload_n 0, 1) := by decide +kernel
theorem d_JPrecond_checkIndex_17 : decode b_JPrecond_checkIndex 17 = .ok (.ireturn, 1) := by decide +kernel
section S_JPrecond_checkIndex
variable {p : Program} {l : Launch} {e : Env} {s : State} {m : MethodId} {args : Array Value} {below : List Frame} {meth : Method} {c : Code} {D : va_G} {cA : Nat → ClassId} {ad : Nat → Nat} {nC : Nat} {A : Nat → Prop} {r : Int32} {τ : St}
noncomputable def F_JPrecond_checkIndex_9 (v0 : Int32) (v1 : Int32) : Option Int32 := none
set_option maxHeartbeats 4000000 in
set_option maxRecDepth 100000 in
theorem q_JPrecond_checkIndex_9 (hn : 0 ≤ nC) (s0 : St) (K : Fx p s m args meth c b_JPrecond_checkIndex 3 R_JPrecond (some .int))  : ∀ (H : Heap) (locs : List Loc) (ls : Array Slot) (v0 : Int32) (v1 : Int32), Wh D cA ad (shC.take nC) A s s0 H locs → lv_has ls 3 [(0, .int v0), (1, .int v1)] → F_JPrecond_checkIndex_9 v0 v1 = (some r) → W p l e rm_JPrecond_checkIndex s m args below meth c H locs 0 0 (MQ below (QcI D cA ad (shC.take nC) A r s0) args s 0 0 A) (F0 m 9 ls []) := by
  have hx := K.1.1; have hb := K.1.2.1
  intro H locs ls v0 v1 hw hl hF
  unfold F_JPrecond_checkIndex_9 at hF
  cases hF
noncomputable def F_JPrecond_checkIndex_0 (v0 : Int32) (v1 : Int32) : Option Int32 := (if v0 < 0 then (F_JPrecond_checkIndex_9 v0 v1) else (if v0 < v1 then (some v0) else (F_JPrecond_checkIndex_9 v0 v1)))
set_option maxHeartbeats 4000000 in
set_option maxRecDepth 100000 in
theorem q_JPrecond_checkIndex_0 (hn : 0 ≤ nC) (s0 : St) (K : Fx p s m args meth c b_JPrecond_checkIndex 3 R_JPrecond (some .int))  : ∀ (H : Heap) (locs : List Loc) (ls : Array Slot) (v0 : Int32) (v1 : Int32), Wh D cA ad (shC.take nC) A s s0 H locs → lv_has ls 3 [(0, .int v0), (1, .int v1)] → F_JPrecond_checkIndex_0 v0 v1 = (some r) → W p l e rm_JPrecond_checkIndex s m args below meth c H locs 0 0 (MQ below (QcI D cA ad (shC.take nC) A r s0) args s 0 0 A) (F0 m 0 ls []) := by
  have hx := K.1.1; have hb := K.1.2.1
  intro H locs ls v0 v1 hw hl hF
  unfold F_JPrecond_checkIndex_0 at hF
  refine lv_iload_n hx hb d_JPrecond_checkIndex_0 rfl (lv_at hl 0 rfl) ?_
  refine lv_if_lt (tgt := 9) hx hb d_JPrecond_checkIndex_1 (by decide) (fun c_1 => ?_) (fun c_1 => ?_)
  · replace hF := ifT hF c_1
    exact q_JPrecond_checkIndex_9 hn s0 K _ _ _ _ _  hw (lv_sub hl [0, 1] rfl) hF
  · replace hF := ifF hF c_1
    refine lv_iload_n hx hb d_JPrecond_checkIndex_4 rfl (lv_at hl 0 rfl) ?_
    refine lv_iload_n hx hb d_JPrecond_checkIndex_5 rfl (lv_at hl 1 rfl) ?_
    refine lv_icmp_lt (tgt := 16) hx hb d_JPrecond_checkIndex_6 (by decide) (fun c_2 => ?_) (fun c_2 => ?_)
    · replace hF := ifT hF c_2
      refine lv_iload_n hx hb d_JPrecond_checkIndex_16 rfl (lv_at hl 0 rfl) ?_
      replace hF := sE1 hF
      subst hF
      exact r_iret K hw d_JPrecond_checkIndex_17
    · replace hF := ifF hF c_2
      exact q_JPrecond_checkIndex_9 hn s0 K _ _ _ _ _  hw (lv_sub hl [0, 1] rfl) hF
end S_JPrecond_checkIndex
noncomputable abbrev F_JPrecond_checkIndex := F_JPrecond_checkIndex_0
theorem c_JPrecond_checkIndex {l : Launch} {D : va_G} {cA : Nat → ClassId} {ad : Nat → Nat} {s0 : St} {nC : Nat} (hn : 0 ≤ nC) {r : Int32} {v0 : Int32} {v1 : Int32}  {fm : Value} (hfm : fm = .null ∨ ∃ t, fm = .ref t) (hF : F_JPrecond_checkIndex v0 v1 = (some r)) : MI l D cA ad (shC.take nC) y_JPrecond_checkIndex (wT y_JPrecond_checkIndex b_JPrecond_checkIndex 3 (some .int)) rm_JPrecond_checkIndex [.int v0, .int v1, fm] s0 r s0 := by
  rcases hfm with rfl | ⟨t, rfl⟩
  · exact fun sz => m_start (Qc := fun A => QcI D cA ad (shC.take nC) A r s0) (by decide +kernel) w_252 (Nat.le_of_ble_eq_true rfl) (fun p e s m below meth c ls K hl hw => q_JPrecond_checkIndex_0 hn s0 K _ _ _ _ _  hw (lv_sub hl [0, 1] rfl) hF)
  · exact fun sz => m_start (Qc := fun A => QcI D cA ad (shC.take nC) A r s0) (by decide +kernel) w_252 (Nat.le_of_ble_eq_true rfl) (fun p e s m below meth c ls K hl hw => q_JPrecond_checkIndex_0 hn s0 K _ _ _ _ _  hw (lv_sub hl [0, 1] rfl) hF)

/-! JString.checkIndex(II)V -/
abbrev b_JString_checkIndex : ByteArray := prog_17_method_155_code
def y_JString_checkIndex : MethodName := ⟨R_JString, "checkIndex", "(II)V"⟩
theorem a_JString_checkIndex : y_JString_checkIndex.cls = R_JString ∧ y_JString_checkIndex.cls ≠ "java/lang/invoke/MethodHandle" ∧ y_JString_checkIndex.cls ≠ "java/lang/invoke/VarHandle" ∧ (parseMethodDescriptor y_JString_checkIndex.desc).map (fun d => d.parameters.length) = some 2 := by decide +kernel
abbrev rm_JString_checkIndex : Room := { frames := 1, cells := 0, slots := 0, locals := 22 }
theorem w_248 : Cond.fieldLink R_JString 1053 "jdk/internal/util/Preconditions" "SIOOBE_FORMATTER" "Ljava/util/function/BiFunction;" ∈ TB := tb_in 248 (by decide +kernel) (by decide +kernel)
theorem w_250 : Cond.methodLink R_JString 1059 y_JPrecond_checkIndex ∈ TB := tb_in 250 (by decide +kernel) (by decide +kernel)
theorem w_251 : Cond.static y_JPrecond_checkIndex ∈ TB := tb_in 251 (by decide +kernel) (by decide +kernel)
theorem w_71 : Cond.initialized R_JPrecond ∈ TB := tb_in 71 (by decide +kernel) (by decide +kernel)
theorem w_247 : Cond.code y_JString_checkIndex b_JString_checkIndex 2 none ∈ TB := tb_in 247 (by decide +kernel) (by decide +kernel)
theorem d_JString_checkIndex_0 : decode b_JString_checkIndex 0 = .ok (.iload_n 0, 1) := by decide +kernel
theorem d_JString_checkIndex_1 : decode b_JString_checkIndex 1 = .ok (.iload_n 1, 1) := by decide +kernel
theorem d_JString_checkIndex_2 : decode b_JString_checkIndex 2 = .ok (.getstatic 1053, 3) := by decide +kernel
theorem d_JString_checkIndex_5 : decode b_JString_checkIndex 5 = .ok (.invokestatic 1059, 3) := by decide +kernel
theorem d_JString_checkIndex_8 : decode b_JString_checkIndex 8 = .ok (.pop, 1) := by decide +kernel
theorem d_JString_checkIndex_9 : decode b_JString_checkIndex 9 = .ok (.return_, 1) := by decide +kernel
section S_JString_checkIndex
variable {p : Program} {l : Launch} {e : Env} {s : State} {m : MethodId} {args : Array Value} {below : List Frame} {meth : Method} {c : Code} {D : va_G} {cA : Nat → ClassId} {ad : Nat → Nat} {nC : Nat} {A : Nat → Prop} {τ : St}
noncomputable def F_JString_checkIndex_0 (s0 : St) (v0 : Int32) (v1 : Int32) : Option St := (ob1 (F_JPrecond_checkIndex v0 v1) (fun r_2 => (some s0)))
set_option maxHeartbeats 4000000 in
set_option maxRecDepth 100000 in
theorem q_JString_checkIndex_0 (hn : 0 ≤ nC) (K : Fx p s m args meth c b_JString_checkIndex 2 R_JString none)  : ∀ (H : Heap) (locs : List Loc) (ls : Array Slot) (s0 : St) (v0 : Int32) (v1 : Int32), Wh D cA ad (shC.take nC) A s s0 H locs → lv_has ls 2 [(0, .int v0), (1, .int v1)] → F_JString_checkIndex_0 s0 v0 v1 = (some τ) → W p l e rm_JString_checkIndex s m args below meth c H locs 0 0 (MQ below (QcV D cA ad (shC.take nC) A τ) args s 0 0 A) (F0 m 0 ls []) := by
  have hx := K.1.1; have hb := K.1.2.1
  intro H locs ls s0 v0 v1 hw hl hF
  unfold F_JString_checkIndex_0 at hF
  refine lv_iload_n hx hb d_JString_checkIndex_0 rfl (lv_at hl 0 rfl) ?_
  refine lv_iload_n hx hb d_JString_checkIndex_1 rfl (lv_at hl 1 rfl) ?_
  refine k_fm K hw w_248 d_JString_checkIndex_2 (fun fm_1 h_fm_1 => ?_)
  obtain ⟨r_2, h_r_2, hF⟩ := ob1E hF
  refine k_callTI (As := [.int v0, .int v1, fm_1]) (rest := []) K hw hl.1 (c_JPrecond_checkIndex (l := l) (D := D) (cA := cA) (ad := ad) (s0 := s0) (Nat.le_trans (Nat.le_of_ble_eq_true rfl) hn) h_fm_1 h_r_2) w_250 w_251 w_71 w_252 a_JPrecond_checkIndex.2 ⟨rfl, rfl, Nat.le_of_ble_eq_true rfl, Nat.le_of_ble_eq_true rfl⟩ rfl rfl (Nat.le_of_ble_eq_true rfl) d_JString_checkIndex_5 (fun H locs hw => ?_)
  refine lv_pop hx hb d_JString_checkIndex_8 rfl ?_
  replace hF := sE1 hF
  subst hF
  exact r_vret K hw d_JString_checkIndex_9
end S_JString_checkIndex
noncomputable abbrev F_JString_checkIndex := F_JString_checkIndex_0
theorem c_JString_checkIndex {l : Launch} {D : va_G} {cA : Nat → ClassId} {ad : Nat → Nat} {s0 τ : St} {nC : Nat} (hn : 0 ≤ nC) {v0 : Int32} {v1 : Int32}  (hF : F_JString_checkIndex s0 v0 v1 = (some τ)) : MV l D cA ad (shC.take nC) y_JString_checkIndex (wT y_JString_checkIndex b_JString_checkIndex 2 none) rm_JString_checkIndex [.int v0, .int v1] s0 τ := fun sz => m_start (Qc := fun A => QcV D cA ad (shC.take nC) A τ) (by decide +kernel) w_247 (Nat.le_of_ble_eq_true rfl) (fun p e s m below meth c ls K hl hw => q_JString_checkIndex_0 hn K _ _ _ _ _ _  hw hl hF)

/-! JLatin1.charAt([BI)C -/
abbrev b_JLatin1_charAt : ByteArray := prog_18_method_2_code
def y_JLatin1_charAt : MethodName := ⟨R_JLatin1, "charAt", "([BI)C"⟩
theorem a_JLatin1_charAt : y_JLatin1_charAt.cls = R_JLatin1 ∧ y_JLatin1_charAt.cls ≠ "java/lang/invoke/MethodHandle" ∧ y_JLatin1_charAt.cls ≠ "java/lang/invoke/VarHandle" ∧ (parseMethodDescriptor y_JLatin1_charAt.desc).map (fun d => d.parameters.length) = some 2 := by decide +kernel
abbrev rm_JLatin1_charAt : Room := { frames := 2, cells := 0, slots := 0, locals := 43 }
theorem w_245 : Cond.methodLink R_JLatin1 9 y_JString_checkIndex ∈ TB := tb_in 245 (by decide +kernel) (by decide +kernel)
theorem w_246 : Cond.static y_JString_checkIndex ∈ TB := tb_in 246 (by decide +kernel) (by decide +kernel)
theorem w_244 : Cond.code y_JLatin1_charAt b_JLatin1_charAt 2 (some .char) ∈ TB := tb_in 244 (by decide +kernel) (by decide +kernel)
theorem d_JLatin1_charAt_0 : decode b_JLatin1_charAt 0 = .ok (.iload_n 1, 1) := by decide +kernel
theorem d_JLatin1_charAt_1 : decode b_JLatin1_charAt 1 = .ok (.aload_n 0, 1) := by decide +kernel
theorem d_JLatin1_charAt_2 : decode b_JLatin1_charAt 2 = .ok (.arraylength, 1) := by decide +kernel
theorem d_JLatin1_charAt_3 : decode b_JLatin1_charAt 3 = .ok (.invokestatic 9, 3) := by decide +kernel
theorem d_JLatin1_charAt_6 : decode b_JLatin1_charAt 6 = .ok (.aload_n 0, 1) := by decide +kernel
theorem d_JLatin1_charAt_7 : decode b_JLatin1_charAt 7 = .ok (.iload_n 1, 1) := by decide +kernel
theorem d_JLatin1_charAt_8 : decode b_JLatin1_charAt 8 = .ok (.baload, 1) := by decide +kernel
theorem d_JLatin1_charAt_9 : decode b_JLatin1_charAt 9 = .ok (.sipush 255, 3) := by decide +kernel
theorem d_JLatin1_charAt_12 : decode b_JLatin1_charAt 12 = .ok (.iand, 1) := by decide +kernel
theorem d_JLatin1_charAt_13 : decode b_JLatin1_charAt 13 = .ok (.i2c, 1) := by decide +kernel
theorem d_JLatin1_charAt_14 : decode b_JLatin1_charAt 14 = .ok (.ireturn, 1) := by decide +kernel
section S_JLatin1_charAt
variable {p : Program} {l : Launch} {e : Env} {s : State} {m : MethodId} {args : Array Value} {below : List Frame} {meth : Method} {c : Code} {D : va_G} {cA : Nat → ClassId} {ad : Nat → Nat} {nC : Nat} {A : Nat → Prop} {r : Int32} {τ : St}
noncomputable def F_JLatin1_charAt_0 (s0 : St) (v0 : Nat) (v1 : Int32) : Option (Int32 × St) := (ob1 (F_JString_checkIndex s0 v1 (nI (SLEN.getD v0 0))) (fun s_1 => (if inB v1 (SLEN.getD v0 0) = true then (if ((((((SBYT.getD v0 []).getD v1.toNatClampNeg 0) &&& (255 : Int32)).toUInt32 % 65536).toInt32).toUInt32 % 65536).toInt32 = (((((SBYT.getD v0 []).getD v1.toNatClampNeg 0) &&& (255 : Int32)).toUInt32 % 65536).toInt32) then (some ((((((SBYT.getD v0 []).getD v1.toNatClampNeg 0) &&& (255 : Int32)).toUInt32 % 65536).toInt32), s_1)) else none) else none)))
set_option maxHeartbeats 4000000 in
set_option maxRecDepth 100000 in
theorem q_JLatin1_charAt_0 (hn : 0 ≤ nC) (K : Fx p s m args meth c b_JLatin1_charAt 2 R_JLatin1 (some .char))  : ∀ (H : Heap) (locs : List Loc) (ls : Array Slot) (s0 : St) (v0 : Nat) (v1 : Int32) (g_v0 : v0 < 3), Wh D cA ad (shC.take nC) A s s0 H locs → lv_has ls 2 [(0, .ref (ad (104 + v0))), (1, .int v1)] → F_JLatin1_charAt_0 s0 v0 v1 = (some (r, τ)) → W p l e rm_JLatin1_charAt s m args below meth c H locs 0 0 (MQ below (QcI D cA ad (shC.take nC) A r τ) args s 0 0 A) (F0 m 0 ls []) := by
  have hx := K.1.1; have hb := K.1.2.1
  intro H locs ls s0 v0 v1 g_v0 hw hl hF
  unfold F_JLatin1_charAt_0 at hF
  refine lv_iload_n hx hb d_JLatin1_charAt_0 rfl (lv_at hl 1 rfl) ?_
  refine lv_aload_n hx hb d_JLatin1_charAt_1 rfl (lv_at hl 0 rfl) ?_
  refine k_blen K hw g_v0 d_JLatin1_charAt_2 ?_
  obtain ⟨s_1, h_s_1, hF⟩ := ob1E hF
  refine k_callTV (As := [.int v1, .int (nI (SLEN.getD v0 0))]) (rest := []) K hw hl.1 (c_JString_checkIndex (l := l) (D := D) (cA := cA) (ad := ad) (s0 := s0) (Nat.le_trans (Nat.le_of_ble_eq_true rfl) hn)  h_s_1) w_245 w_246 w_69 w_247 a_JString_checkIndex.2 ⟨rfl, rfl, Nat.le_of_ble_eq_true rfl, Nat.le_of_ble_eq_true rfl⟩ rfl rfl (Nat.le_of_ble_eq_true rfl) d_JLatin1_charAt_3 (fun H locs hw => ?_)
  refine lv_aload_n hx hb d_JLatin1_charAt_6 rfl (lv_at hl 0 rfl) ?_
  refine lv_iload_n hx hb d_JLatin1_charAt_7 rfl (lv_at hl 1 rfl) ?_
  obtain ⟨g_2, hF⟩ := ifG hF
  refine k_bald K hw g_v0 (inB_vp g_2) d_JLatin1_charAt_8 ?_
  refine lv_sipush (v := 255) hx hb d_JLatin1_charAt_9 (by decide) ?_
  refine lv_iand hx hb d_JLatin1_charAt_12 ?_
  refine lv_i2c (v := ((((SBYT.getD v0 []).getD v1.toNatClampNeg 0) &&& (255 : Int32)).toUInt32 % 65536).toInt32) hx hb d_JLatin1_charAt_13 rfl ?_
  obtain ⟨g_3, hF⟩ := ifG hF
  obtain ⟨hF, hG⟩ := sE2 hF
  subst hF
  subst hG
  exact k_nret K hw rfl (cN g_3) d_JLatin1_charAt_14
end S_JLatin1_charAt
noncomputable abbrev F_JLatin1_charAt := F_JLatin1_charAt_0
theorem c_JLatin1_charAt {l : Launch} {D : va_G} {cA : Nat → ClassId} {ad : Nat → Nat} {s0 τ : St} {nC : Nat} (hn : 0 ≤ nC) {r : Int32} {v0 : Nat} {v1 : Int32} (g_v0 : v0 < 3) (hF : F_JLatin1_charAt s0 v0 v1 = (some (r, τ))) : MI l D cA ad (shC.take nC) y_JLatin1_charAt (wT y_JLatin1_charAt b_JLatin1_charAt 2 (some .char)) rm_JLatin1_charAt [.ref (ad (104 + v0)), .int v1] s0 r τ := fun sz => m_start (Qc := fun A => QcI D cA ad (shC.take nC) A r τ) (by decide +kernel) w_244 (Nat.le_of_ble_eq_true rfl) (fun p e s m below meth c ls K hl hw => q_JLatin1_charAt_0 hn K _ _ _ _ _ _ g_v0 hw hl hF)

/-! JString.charAt(I)C -/
abbrev b_JString_charAt : ByteArray := prog_17_method_56_code
def y_JString_charAt : MethodName := ⟨R_JString, "charAt", "(I)C"⟩
theorem a_JString_charAt : y_JString_charAt.cls = R_JString ∧ y_JString_charAt.cls ≠ "java/lang/invoke/MethodHandle" ∧ y_JString_charAt.cls ≠ "java/lang/invoke/VarHandle" ∧ (parseMethodDescriptor y_JString_charAt.desc).map (fun d => d.parameters.length) = some 1 := by decide +kernel
abbrev rm_JString_charAt : Room := { frames := 3, cells := 0, slots := 0, locals := 64 }
theorem w_242 : Cond.methodLink R_JString 495 y_JLatin1_charAt ∈ TB := tb_in 242 (by decide +kernel) (by decide +kernel)
theorem w_243 : Cond.static y_JLatin1_charAt ∈ TB := tb_in 243 (by decide +kernel) (by decide +kernel)
theorem w_237 : Cond.code y_JString_charAt b_JString_charAt 2 (some .char) ∈ TB := tb_in 237 (by decide +kernel) (by decide +kernel)
theorem d_JString_charAt_0 : decode b_JString_charAt 0 = .ok (.aload_n 0, 1) := by decide +kernel
theorem d_JString_charAt_1 : decode b_JString_charAt 1 = .ok (.invokevirtual 492, 3) := by decide +kernel
theorem d_JString_charAt_4 : decode b_JString_charAt 4 = .ok (.ifCond .eq 12, 3) := by decide +kernel
theorem d_JString_charAt_7 : decode b_JString_charAt 7 = .ok (.aload_n 0, 1) := by decide +kernel
theorem d_JString_charAt_8 : decode b_JString_charAt 8 = .ok (.getfield 9, 3) := by decide +kernel
theorem d_JString_charAt_11 : decode b_JString_charAt 11 = .ok (.iload_n 1, 1) := by decide +kernel
theorem d_JString_charAt_12 : decode b_JString_charAt 12 = .ok (.invokestatic 495, 3) := by decide +kernel
theorem d_JString_charAt_15 : decode b_JString_charAt 15 = .ok (.ireturn, 1) := by decide +kernel
theorem d_JString_charAt_16 : decode b_JString_charAt 16 = .ok (.aload_n 0, 1) := by decide +kernel
theorem d_JString_charAt_17 : decode b_JString_charAt 17 = .ok (.getfield 9, 3) := by decide +kernel
theorem d_JString_charAt_20 : decode b_JString_charAt 20 = .ok (.iload_n 1, 1) := by decide +kernel
section S_JString_charAt
variable {p : Program} {l : Launch} {e : Env} {s : State} {m : MethodId} {args : Array Value} {below : List Frame} {meth : Method} {c : Code} {D : va_G} {cA : Nat → ClassId} {ad : Nat → Nat} {nC : Nat} {A : Nat → Prop} {r : Int32} {τ : St}
noncomputable def F_JString_charAt_0 (s0 : St) (v0 : Nat) (v1 : Int32) : Option (Int32 × St) := (if (F_JString_isLatin1 v0) = 0 then none else (ob2 (F_JLatin1_charAt s0 v0 v1) (fun r_2 s_3 => (if (r_2.toUInt32 % 65536).toInt32 = r_2 then (some (r_2, s_3)) else none))))
set_option maxHeartbeats 4000000 in
set_option maxRecDepth 100000 in
theorem q_JString_charAt_0 (hn : 0 ≤ nC) (K : Fx p s m args meth c b_JString_charAt 2 R_JString (some .char))  : ∀ (H : Heap) (locs : List Loc) (ls : Array Slot) (s0 : St) (v0 : Nat) (v1 : Int32) (g_v0 : v0 < 3), Wh D cA ad (shC.take nC) A s s0 H locs → lv_has ls 2 [(0, .ref (ad (101 + v0))), (1, .int v1)] → F_JString_charAt_0 s0 v0 v1 = (some (r, τ)) → W p l e rm_JString_charAt s m args below meth c H locs 0 0 (MQ below (QcI D cA ad (shC.take nC) A r τ) args s 0 0 A) (F0 m 0 ls []) := by
  have hx := K.1.1; have hb := K.1.2.1
  intro H locs ls s0 v0 v1 g_v0 hw hl hF
  unfold F_JString_charAt_0 at hF
  refine lv_aload_n hx hb d_JString_charAt_0 rfl (lv_at hl 0 rfl) ?_
  refine k_callVI (As := []) (rest := []) K hw hl.1 (c_JString_isLatin1 (l := l) (D := D) (cA := cA) (ad := ad) (s0 := s0) (Nat.le_trans (Nat.le_of_ble_eq_true rfl) hn) g_v0 rfl) g_v0 (tb_gV w_238 w_239 w_240 w_69 w_241) a_JString_isLatin1 ⟨rfl, rfl, Nat.le_of_ble_eq_true rfl, Nat.le_of_ble_eq_true rfl⟩ rfl rfl (Nat.le_of_ble_eq_true rfl) d_JString_charAt_1 (fun H locs hw => ?_)
  refine lv_if_eq (tgt := 16) hx hb d_JString_charAt_4 (by decide) (fun c_1 => ?_) (fun c_1 => ?_)
  · replace hF := ifT hF c_1
    refine lv_aload_n hx hb d_JString_charAt_16 rfl (lv_at hl 0 rfl) ?_
    refine k_val K hw g_v0 w_1415 d_JString_charAt_17 ?_
    refine lv_iload_n hx hb d_JString_charAt_20 rfl (lv_at hl 1 rfl) ?_
    cases hF
  · replace hF := ifF hF c_1
    refine lv_aload_n hx hb d_JString_charAt_7 rfl (lv_at hl 0 rfl) ?_
    refine k_val K hw g_v0 w_1415 d_JString_charAt_8 ?_
    refine lv_iload_n hx hb d_JString_charAt_11 rfl (lv_at hl 1 rfl) ?_
    obtain ⟨r_2, s_3, h_s_3, hF⟩ := ob2E hF
    refine k_callTI (As := [.ref (ad (104 + v0)), .int v1]) (rest := []) K hw hl.1 (c_JLatin1_charAt (l := l) (D := D) (cA := cA) (ad := ad) (s0 := s0) (Nat.le_trans (Nat.le_of_ble_eq_true rfl) hn) g_v0 h_s_3) w_242 w_243 w_70 w_244 a_JLatin1_charAt.2 ⟨rfl, rfl, Nat.le_of_ble_eq_true rfl, Nat.le_of_ble_eq_true rfl⟩ rfl rfl (Nat.le_of_ble_eq_true rfl) d_JString_charAt_12 (fun H locs hw => ?_)
    obtain ⟨g_4, hF⟩ := ifG hF
    obtain ⟨hF, hG⟩ := sE2 hF
    subst hF
    subst hG
    exact k_nret K hw rfl (cN g_4) d_JString_charAt_15
end S_JString_charAt
noncomputable abbrev F_JString_charAt := F_JString_charAt_0
theorem c_JString_charAt {l : Launch} {D : va_G} {cA : Nat → ClassId} {ad : Nat → Nat} {s0 τ : St} {nC : Nat} (hn : 0 ≤ nC) {r : Int32} {v0 : Nat} {v1 : Int32} (g_v0 : v0 < 3) (hF : F_JString_charAt s0 v0 v1 = (some (r, τ))) : MI l D cA ad (shC.take nC) y_JString_charAt (wT y_JString_charAt b_JString_charAt 2 (some .char)) rm_JString_charAt [.ref (ad (101 + v0)), .int v1] s0 r τ := fun sz => m_start (Qc := fun A => QcI D cA ad (shC.take nC) A r τ) (by decide +kernel) w_237 (Nat.le_of_ble_eq_true rfl) (fun p e s m below meth c ls K hl hw => q_JString_charAt_0 hn K _ _ _ _ _ _ g_v0 hw hl hF)

/-! Tokens.wordNumber(II)I -/
abbrev b_Tokens_wordNumber : ByteArray := prog_11_method_8_code
def y_Tokens_wordNumber : MethodName := ⟨R_Tokens, "wordNumbe\x72", "(II)I"⟩
theorem a_Tokens_wordNumber : y_Tokens_wordNumber.cls = R_Tokens ∧ y_Tokens_wordNumber.cls ≠ "java/lang/invoke/MethodHandle" ∧ y_Tokens_wordNumber.cls ≠ "java/lang/invoke/VarHandle" ∧ (parseMethodDescriptor y_Tokens_wordNumber.desc).map (fun d => d.parameters.length) = some 2 := by decide +kernel
abbrev rm_Tokens_wordNumber : Room := { frames := 4, cells := 0, slots := 0, locals := 85 }
theorem w_358 : Cond.methodLink R_Tokens 64 y_JString_length ∈ TB := tb_in 358 (by decide +kernel) (by decide +kernel)
theorem w_359 : Cond.methodLink R_Tokens 70 y_JString_charAt ∈ TB := tb_in 359 (by decide +kernel) (by decide +kernel)
theorem w_235 : Cond.instanceMethod y_JString_charAt ∈ TB := tb_in 235 (by decide +kernel) (by decide +kernel)
theorem w_236 : Cond.selects R_JString y_JString_charAt y_JString_charAt ∈ TB := tb_in 236 (by decide +kernel) (by decide +kernel)
theorem w_356 : Cond.code y_Tokens_wordNumber b_Tokens_wordNumber 8 (some .int) ∈ TB := tb_in 356 (by decide +kernel) (by decide +kernel)
theorem d_Tokens_wordNumber_0 : decode b_Tokens_wordNumber 0 = .ok (.iconst 0, 1) := by decide +kernel
theorem d_Tokens_wordNumber_1 : decode b_Tokens_wordNumber 1 = .ok (.istore_n 3, 1) := by decide +kernel
theorem d_Tokens_wordNumber_2 : decode b_Tokens_wordNumber 2 = .ok (.iload_n 1, 1) := by decide +kernel
theorem d_Tokens_wordNumber_3 : decode b_Tokens_wordNumber 3 = .ok (.istore 4, 2) := by decide +kernel
theorem d_Tokens_wordNumber_5 : decode b_Tokens_wordNumber 5 = .ok (.iconst 1, 1) := by decide +kernel
theorem d_Tokens_wordNumber_6 : decode b_Tokens_wordNumber 6 = .ok (.istore 5, 2) := by decide +kernel
theorem d_Tokens_wordNumber_8 : decode b_Tokens_wordNumber 8 = .ok (.iconst 0, 1) := by decide +kernel
theorem d_Tokens_wordNumber_9 : decode b_Tokens_wordNumber 9 = .ok (.istore 6, 2) := by decide +kernel
theorem d_Tokens_wordNumber_11 : decode b_Tokens_wordNumber 11 = .ok (.iload 6, 2) := by decide +kernel
theorem d_Tokens_wordNumber_13 : decode b_Tokens_wordNumber 13 = .ok (.ldc 62, 2) := by decide +kernel
theorem d_Tokens_wordNumber_15 : decode b_Tokens_wordNumber 15 = .ok (.invokevirtual 64, 3) := by decide +kernel
theorem d_Tokens_wordNumber_18 : decode b_Tokens_wordNumber 18 = .ok (.if_icmp .ge 85, 3) := by decide +kernel
theorem d_Tokens_wordNumber_21 : decode b_Tokens_wordNumber 21 = .ok (.ldc 62, 2) := by decide +kernel
theorem d_Tokens_wordNumber_23 : decode b_Tokens_wordNumber 23 = .ok (.iload 6, 2) := by decide +kernel
theorem d_Tokens_wordNumber_25 : decode b_Tokens_wordNumber 25 = .ok (.invokevirtual 70, 3) := by decide +kernel
theorem d_Tokens_wordNumber_28 : decode b_Tokens_wordNumber 28 = .ok (.istore 7, 2) := by decide +kernel
theorem d_Tokens_wordNumber_30 : decode b_Tokens_wordNumber 30 = .ok (.iload 7, 2) := by decide +kernel
theorem d_Tokens_wordNumber_32 : decode b_Tokens_wordNumber 32 = .ok (.bipush 32, 2) := by decide +kernel
theorem d_Tokens_wordNumber_34 : decode b_Tokens_wordNumber 34 = .ok (.if_icmp .eq 41, 3) := by decide +kernel
theorem d_Tokens_wordNumber_37 : decode b_Tokens_wordNumber 37 = .ok (.iload 5, 2) := by decide +kernel
theorem d_Tokens_wordNumber_39 : decode b_Tokens_wordNumber 39 = .ok (.ifCond .eq 27, 3) := by decide +kernel
theorem d_Tokens_wordNumber_42 : decode b_Tokens_wordNumber 42 = .ok (.iload 4, 2) := by decide +kernel
theorem d_Tokens_wordNumber_44 : decode b_Tokens_wordNumber 44 = .ok (.iload_n 2, 1) := by decide +kernel
theorem d_Tokens_wordNumber_45 : decode b_Tokens_wordNumber 45 = .ok (.if_icmp .ge 21, 3) := by decide +kernel
theorem d_Tokens_wordNumber_48 : decode b_Tokens_wordNumber 48 = .ok (.aload_n 0, 1) := by decide +kernel
theorem d_Tokens_wordNumber_49 : decode b_Tokens_wordNumber 49 = .ok (.getfield 21, 3) := by decide +kernel
theorem d_Tokens_wordNumber_52 : decode b_Tokens_wordNumber 52 = .ok (.iload 4, 2) := by decide +kernel
theorem d_Tokens_wordNumber_54 : decode b_Tokens_wordNumber 54 = .ok (.invokevirtual 74, 3) := by decide +kernel
theorem d_Tokens_wordNumber_57 : decode b_Tokens_wordNumber 57 = .ok (.iload 7, 2) := by decide +kernel
theorem d_Tokens_wordNumber_59 : decode b_Tokens_wordNumber 59 = .ok (.if_icmp .ne 7, 3) := by decide +kernel
theorem d_Tokens_wordNumber_62 : decode b_Tokens_wordNumber 62 = .ok (.iconst 1, 1) := by decide +kernel
theorem d_Tokens_wordNumber_63 : decode b_Tokens_wordNumber 63 = .ok (.goto 4, 3) := by decide +kernel
theorem d_Tokens_wordNumber_66 : decode b_Tokens_wordNumber 66 = .ok (.iconst 0, 1) := by decide +kernel
theorem d_Tokens_wordNumber_67 : decode b_Tokens_wordNumber 67 = .ok (.istore 5, 2) := by decide +kernel
theorem d_Tokens_wordNumber_69 : decode b_Tokens_wordNumber 69 = .ok (.iinc 4 1, 3) := by decide +kernel
theorem d_Tokens_wordNumber_72 : decode b_Tokens_wordNumber 72 = .ok (.goto 25, 3) := by decide +kernel
theorem d_Tokens_wordNumber_75 : decode b_Tokens_wordNumber 75 = .ok (.iload 5, 2) := by decide +kernel
theorem d_Tokens_wordNumber_77 : decode b_Tokens_wordNumber 77 = .ok (.ifCond .eq 11, 3) := by decide +kernel
theorem d_Tokens_wordNumber_80 : decode b_Tokens_wordNumber 80 = .ok (.iload 4, 2) := by decide +kernel
theorem d_Tokens_wordNumber_82 : decode b_Tokens_wordNumber 82 = .ok (.iload_n 2, 1) := by decide +kernel
theorem d_Tokens_wordNumber_83 : decode b_Tokens_wordNumber 83 = .ok (.if_icmp .ne 5, 3) := by decide +kernel
theorem d_Tokens_wordNumber_86 : decode b_Tokens_wordNumber 86 = .ok (.iload_n 3, 1) := by decide +kernel
theorem d_Tokens_wordNumber_87 : decode b_Tokens_wordNumber 87 = .ok (.ireturn, 1) := by decide +kernel
theorem d_Tokens_wordNumber_88 : decode b_Tokens_wordNumber 88 = .ok (.iinc 3 1, 3) := by decide +kernel
theorem d_Tokens_wordNumber_91 : decode b_Tokens_wordNumber 91 = .ok (.iload_n 1, 1) := by decide +kernel
theorem d_Tokens_wordNumber_92 : decode b_Tokens_wordNumber 92 = .ok (.istore 4, 2) := by decide +kernel
theorem d_Tokens_wordNumber_94 : decode b_Tokens_wordNumber 94 = .ok (.iconst 1, 1) := by decide +kernel
theorem d_Tokens_wordNumber_95 : decode b_Tokens_wordNumber 95 = .ok (.istore 5, 2) := by decide +kernel
theorem d_Tokens_wordNumber_97 : decode b_Tokens_wordNumber 97 = .ok (.iinc 6 1, 3) := by decide +kernel
theorem d_Tokens_wordNumber_100 : decode b_Tokens_wordNumber 100 = .ok (.goto (-89), 3) := by decide +kernel
theorem d_Tokens_wordNumber_103 : decode b_Tokens_wordNumber 103 = .ok (.iconst (-1), 1) := by decide +kernel
theorem d_Tokens_wordNumber_104 : decode b_Tokens_wordNumber 104 = .ok (.ireturn, 1) := by decide +kernel
section S_Tokens_wordNumber
variable {p : Program} {l : Launch} {e : Env} {s : State} {m : MethodId} {args : Array Value} {below : List Frame} {meth : Method} {c : Code} {D : va_G} {cA : Nat → ClassId} {ad : Nat → Nat} {nC : Nat} {A : Nat → Prop} {r : Int32} {τ : St}
noncomputable def F_Tokens_wordNumber_97 (k8 : (St → Int32 → Int32 → Int32 → Int32 → Int32 → Int32 → Option (Int32 × St))) (s0 : St) (v1 : Int32) (v2 : Int32) (v3 : Int32) (v4 : Int32) (v5 : Int32) (v6 : Int32) : Option (Int32 × St) := (k8 s0 v1 v2 v3 v4 v5 (v6 + 1))
set_option maxHeartbeats 4000000 in
set_option maxRecDepth 100000 in
theorem q_Tokens_wordNumber_97 (hn : 4 ≤ nC) (K : Fx p s m args meth c b_Tokens_wordNumber 8 R_Tokens (some .int)) (k8 : (St → Int32 → Int32 → Int32 → Int32 → Int32 → Int32 → Option (Int32 × St))) (hk8 : ∀ (H : Heap) (locs : List Loc) (ls : Array Slot) (s0 : St) (v1 : Int32) (v2 : Int32) (v3 : Int32) (v4 : Int32) (v5 : Int32) (v6 : Int32), Wh D cA ad (shC.take nC) A s s0 H locs → lv_has ls 8 [(0, .ref (ad 3)), (1, .int v1), (2, .int v2), (3, .int v3), (4, .int v4), (5, .int v5), (6, .int v6)] → k8 s0 v1 v2 v3 v4 v5 v6 = (some (r, τ)) → W p l e rm_Tokens_wordNumber s m args below meth c H locs 0 0 (MQ below (QcI D cA ad (shC.take nC) A r τ) args s 0 0 A) (F0 m 11 ls [])) : ∀ (H : Heap) (locs : List Loc) (ls : Array Slot) (s0 : St) (v1 : Int32) (v2 : Int32) (v3 : Int32) (v4 : Int32) (v5 : Int32) (v6 : Int32), Wh D cA ad (shC.take nC) A s s0 H locs → lv_has ls 8 [(0, .ref (ad 3)), (1, .int v1), (2, .int v2), (3, .int v3), (4, .int v4), (5, .int v5), (6, .int v6)] → F_Tokens_wordNumber_97 k8 s0 v1 v2 v3 v4 v5 v6 = (some (r, τ)) → W p l e rm_Tokens_wordNumber s m args below meth c H locs 0 0 (MQ below (QcI D cA ad (shC.take nC) A r τ) args s 0 0 A) (F0 m 97 ls []) := by
  have hx := K.1.1; have hb := K.1.2.1
  intro H locs ls s0 v1 v2 v3 v4 v5 v6 hw hl hF
  unfold F_Tokens_wordNumber_97 at hF
  refine lv_iinc (v := (v6 + 1)) (lv' := [(6, .int (v6 + 1)), (0, .ref (ad 3)), (1, .int v1), (2, .int v2), (3, .int v3), (4, .int v4), (5, .int v5)]) hx hb d_Tokens_wordNumber_97 hl (k := 6) rfl rfl (by decide) rfl (fun ls hl => ?_)
  refine lv_goto (tgt := 11) hx hb d_Tokens_wordNumber_100 (by decide) ?_
  exact hk8 _ _ _ _ _ _ _ _ _ _  hw (lv_sub hl [1, 2, 3, 4, 5, 6, 0] rfl) hF
noncomputable def F_Tokens_wordNumber_88 (k8 : (St → Int32 → Int32 → Int32 → Int32 → Int32 → Int32 → Option (Int32 × St))) (s0 : St) (v1 : Int32) (v2 : Int32) (v3 : Int32) (v6 : Int32) : Option (Int32 × St) := (F_Tokens_wordNumber_97 k8 s0 v1 v2 (v3 + 1) v1 (1 : Int32) v6)
set_option maxHeartbeats 4000000 in
set_option maxRecDepth 100000 in
theorem q_Tokens_wordNumber_88 (hn : 4 ≤ nC) (K : Fx p s m args meth c b_Tokens_wordNumber 8 R_Tokens (some .int)) (k8 : (St → Int32 → Int32 → Int32 → Int32 → Int32 → Int32 → Option (Int32 × St))) (hk8 : ∀ (H : Heap) (locs : List Loc) (ls : Array Slot) (s0 : St) (v1 : Int32) (v2 : Int32) (v3 : Int32) (v4 : Int32) (v5 : Int32) (v6 : Int32), Wh D cA ad (shC.take nC) A s s0 H locs → lv_has ls 8 [(0, .ref (ad 3)), (1, .int v1), (2, .int v2), (3, .int v3), (4, .int v4), (5, .int v5), (6, .int v6)] → k8 s0 v1 v2 v3 v4 v5 v6 = (some (r, τ)) → W p l e rm_Tokens_wordNumber s m args below meth c H locs 0 0 (MQ below (QcI D cA ad (shC.take nC) A r τ) args s 0 0 A) (F0 m 11 ls [])) : ∀ (H : Heap) (locs : List Loc) (ls : Array Slot) (s0 : St) (v1 : Int32) (v2 : Int32) (v3 : Int32) (v6 : Int32), Wh D cA ad (shC.take nC) A s s0 H locs → lv_has ls 8 [(0, .ref (ad 3)), (1, .int v1), (2, .int v2), (3, .int v3), (6, .int v6)] → F_Tokens_wordNumber_88 k8 s0 v1 v2 v3 v6 = (some (r, τ)) → W p l e rm_Tokens_wordNumber s m args below meth c H locs 0 0 (MQ below (QcI D cA ad (shC.take nC) A r τ) args s 0 0 A) (F0 m 88 ls []) := by
  have hx := K.1.1; have hb := K.1.2.1
  intro H locs ls s0 v1 v2 v3 v6 hw hl hF
  unfold F_Tokens_wordNumber_88 at hF
  refine lv_iinc (v := (v3 + 1)) (lv' := [(3, .int (v3 + 1)), (0, .ref (ad 3)), (1, .int v1), (2, .int v2), (6, .int v6)]) hx hb d_Tokens_wordNumber_88 hl (k := 3) rfl rfl (by decide) rfl (fun ls hl => ?_)
  refine lv_iload_n hx hb d_Tokens_wordNumber_91 rfl (lv_at hl 2 rfl) ?_
  refine lv_istore (lv' := [(4, .int v1), (3, .int (v3 + 1)), (0, .ref (ad 3)), (1, .int v1), (2, .int v2), (6, .int v6)]) hx hb d_Tokens_wordNumber_92 hl (by decide) rfl (fun ls hl => ?_)
  refine lv_iconst (v := 1) hx hb d_Tokens_wordNumber_94 (by decide) ?_
  refine lv_istore (lv' := [(5, .int (1 : Int32)), (4, .int v1), (3, .int (v3 + 1)), (0, .ref (ad 3)), (1, .int v1), (2, .int v2), (6, .int v6)]) hx hb d_Tokens_wordNumber_95 hl (by decide) rfl (fun ls hl => ?_)
  exact q_Tokens_wordNumber_97 hn K k8 hk8 _ _ _ _ _ _ _ _ _ _  hw (lv_sub hl [3, 4, 5, 2, 1, 0, 6] rfl) hF
noncomputable def F_Tokens_wordNumber_67 (k8 : (St → Int32 → Int32 → Int32 → Int32 → Int32 → Int32 → Option (Int32 × St))) (s0 : St) (v1 : Int32) (v2 : Int32) (v3 : Int32) (v4 : Int32) (v6 : Int32) (t0 : Int32) : Option (Int32 × St) := (F_Tokens_wordNumber_97 k8 s0 v1 v2 v3 (v4 + 1) t0 v6)
set_option maxHeartbeats 4000000 in
set_option maxRecDepth 100000 in
theorem q_Tokens_wordNumber_67 (hn : 4 ≤ nC) (K : Fx p s m args meth c b_Tokens_wordNumber 8 R_Tokens (some .int)) (k8 : (St → Int32 → Int32 → Int32 → Int32 → Int32 → Int32 → Option (Int32 × St))) (hk8 : ∀ (H : Heap) (locs : List Loc) (ls : Array Slot) (s0 : St) (v1 : Int32) (v2 : Int32) (v3 : Int32) (v4 : Int32) (v5 : Int32) (v6 : Int32), Wh D cA ad (shC.take nC) A s s0 H locs → lv_has ls 8 [(0, .ref (ad 3)), (1, .int v1), (2, .int v2), (3, .int v3), (4, .int v4), (5, .int v5), (6, .int v6)] → k8 s0 v1 v2 v3 v4 v5 v6 = (some (r, τ)) → W p l e rm_Tokens_wordNumber s m args below meth c H locs 0 0 (MQ below (QcI D cA ad (shC.take nC) A r τ) args s 0 0 A) (F0 m 11 ls [])) : ∀ (H : Heap) (locs : List Loc) (ls : Array Slot) (s0 : St) (v1 : Int32) (v2 : Int32) (v3 : Int32) (v4 : Int32) (v6 : Int32) (t0 : Int32), Wh D cA ad (shC.take nC) A s s0 H locs → lv_has ls 8 [(0, .ref (ad 3)), (1, .int v1), (2, .int v2), (3, .int v3), (4, .int v4), (6, .int v6)] → F_Tokens_wordNumber_67 k8 s0 v1 v2 v3 v4 v6 t0 = (some (r, τ)) → W p l e rm_Tokens_wordNumber s m args below meth c H locs 0 0 (MQ below (QcI D cA ad (shC.take nC) A r τ) args s 0 0 A) (F0 m 67 ls [.int t0]) := by
  have hx := K.1.1; have hb := K.1.2.1
  intro H locs ls s0 v1 v2 v3 v4 v6 t0 hw hl hF
  unfold F_Tokens_wordNumber_67 at hF
  refine lv_istore (lv' := [(5, .int t0), (0, .ref (ad 3)), (1, .int v1), (2, .int v2), (3, .int v3), (4, .int v4), (6, .int v6)]) hx hb d_Tokens_wordNumber_67 hl (by decide) rfl (fun ls hl => ?_)
  refine lv_iinc (v := (v4 + 1)) (lv' := [(4, .int (v4 + 1)), (5, .int t0), (0, .ref (ad 3)), (1, .int v1), (2, .int v2), (3, .int v3), (6, .int v6)]) hx hb d_Tokens_wordNumber_69 hl (k := 5) rfl rfl (by decide) rfl (fun ls hl => ?_)
  refine lv_goto (tgt := 97) hx hb d_Tokens_wordNumber_72 (by decide) ?_
  exact q_Tokens_wordNumber_97 hn K k8 hk8 _ _ _ _ _ _ _ _ _ _  hw (lv_sub hl [2, 3, 4, 5, 0, 1, 6] rfl) hF
noncomputable def F_Tokens_wordNumber_66 (k8 : (St → Int32 → Int32 → Int32 → Int32 → Int32 → Int32 → Option (Int32 × St))) (s0 : St) (v1 : Int32) (v2 : Int32) (v3 : Int32) (v4 : Int32) (v6 : Int32) : Option (Int32 × St) := (F_Tokens_wordNumber_67 k8 s0 v1 v2 v3 v4 v6 (0 : Int32))
set_option maxHeartbeats 4000000 in
set_option maxRecDepth 100000 in
theorem q_Tokens_wordNumber_66 (hn : 4 ≤ nC) (K : Fx p s m args meth c b_Tokens_wordNumber 8 R_Tokens (some .int)) (k8 : (St → Int32 → Int32 → Int32 → Int32 → Int32 → Int32 → Option (Int32 × St))) (hk8 : ∀ (H : Heap) (locs : List Loc) (ls : Array Slot) (s0 : St) (v1 : Int32) (v2 : Int32) (v3 : Int32) (v4 : Int32) (v5 : Int32) (v6 : Int32), Wh D cA ad (shC.take nC) A s s0 H locs → lv_has ls 8 [(0, .ref (ad 3)), (1, .int v1), (2, .int v2), (3, .int v3), (4, .int v4), (5, .int v5), (6, .int v6)] → k8 s0 v1 v2 v3 v4 v5 v6 = (some (r, τ)) → W p l e rm_Tokens_wordNumber s m args below meth c H locs 0 0 (MQ below (QcI D cA ad (shC.take nC) A r τ) args s 0 0 A) (F0 m 11 ls [])) : ∀ (H : Heap) (locs : List Loc) (ls : Array Slot) (s0 : St) (v1 : Int32) (v2 : Int32) (v3 : Int32) (v4 : Int32) (v6 : Int32), Wh D cA ad (shC.take nC) A s s0 H locs → lv_has ls 8 [(0, .ref (ad 3)), (1, .int v1), (2, .int v2), (3, .int v3), (4, .int v4), (6, .int v6)] → F_Tokens_wordNumber_66 k8 s0 v1 v2 v3 v4 v6 = (some (r, τ)) → W p l e rm_Tokens_wordNumber s m args below meth c H locs 0 0 (MQ below (QcI D cA ad (shC.take nC) A r τ) args s 0 0 A) (F0 m 66 ls []) := by
  have hx := K.1.1; have hb := K.1.2.1
  intro H locs ls s0 v1 v2 v3 v4 v6 hw hl hF
  unfold F_Tokens_wordNumber_66 at hF
  refine lv_iconst (v := 0) hx hb d_Tokens_wordNumber_66 (by decide) ?_
  exact q_Tokens_wordNumber_67 hn K k8 hk8 _ _ _ _ _ _ _ _ _ _  hw (lv_sub hl [0, 1, 2, 3, 4, 5] rfl) hF
noncomputable def F_Tokens_wordNumber_11 : Nat → St → Int32 → Int32 → Int32 → Int32 → Int32 → Int32 → Option (Int32 × St)
  | 0, _, _, _, _, _, _, _ => none
  | n + 1, s0, v1, v2, v3, v4, v5, v6 => (if (F_JString_length 1) ≤ v6 then (some ((-1 : Int32), s0)) else (ob2 (F_JString_charAt s0 1 v6) (fun r_2 s_3 => (if r_2 = (32 : Int32) then (if v5 = 0 then (F_Tokens_wordNumber_88 (fun z0 zv1 zv2 zv3 zv4 zv5 zv6 => F_Tokens_wordNumber_11 n z0 zv1 zv2 zv3 zv4 zv5 zv6) s_3 v1 v2 v3 v6) else (if ¬ v4 = v2 then (F_Tokens_wordNumber_88 (fun z0 zv1 zv2 zv3 zv4 zv5 zv6 => F_Tokens_wordNumber_11 n z0 zv1 zv2 zv3 zv4 zv5 zv6) s_3 v1 v2 v3 v6) else (some (v3, s_3)))) else (if v5 = 0 then (F_Tokens_wordNumber_66 (fun z0 zv1 zv2 zv3 zv4 zv5 zv6 => F_Tokens_wordNumber_11 n z0 zv1 zv2 zv3 zv4 zv5 zv6) s_3 v1 v2 v3 v4 v6) else (if v2 ≤ v4 then (F_Tokens_wordNumber_66 (fun z0 zv1 zv2 zv3 zv4 zv5 zv6 => F_Tokens_wordNumber_11 n z0 zv1 zv2 zv3 zv4 zv5 zv6) s_3 v1 v2 v3 v4 v6) else (ob1 (F_Tape_at s_3 v4) (fun r_9 => (if ¬ r_9 = r_2 then (F_Tokens_wordNumber_66 (fun z0 zv1 zv2 zv3 zv4 zv5 zv6 => F_Tokens_wordNumber_11 n z0 zv1 zv2 zv3 zv4 zv5 zv6) s_3 v1 v2 v3 v4 v6) else (F_Tokens_wordNumber_67 (fun z0 zv1 zv2 zv3 zv4 zv5 zv6 => F_Tokens_wordNumber_11 n z0 zv1 zv2 zv3 zv4 zv5 zv6) s_3 v1 v2 v3 v4 v6 (1 : Int32)))))))))))
set_option maxHeartbeats 4000000 in
set_option maxRecDepth 100000 in
theorem q_Tokens_wordNumber_11 (hn : 4 ≤ nC) (K : Fx p s m args meth c b_Tokens_wordNumber 8 R_Tokens (some .int))  : ∀ (n : Nat), ∀ (H : Heap) (locs : List Loc) (ls : Array Slot) (s0 : St) (v1 : Int32) (v2 : Int32) (v3 : Int32) (v4 : Int32) (v5 : Int32) (v6 : Int32), Wh D cA ad (shC.take nC) A s s0 H locs → lv_has ls 8 [(0, .ref (ad 3)), (1, .int v1), (2, .int v2), (3, .int v3), (4, .int v4), (5, .int v5), (6, .int v6)] → F_Tokens_wordNumber_11 n s0 v1 v2 v3 v4 v5 v6 = (some (r, τ)) → W p l e rm_Tokens_wordNumber s m args below meth c H locs 0 0 (MQ below (QcI D cA ad (shC.take nC) A r τ) args s 0 0 A) (F0 m 11 ls []) := by
  have hx := K.1.1; have hb := K.1.2.1
  intro n
  induction n with
  | zero =>
    intro H locs ls s0 v1 v2 v3 v4 v5 v6 hw hl hF
    exact absurd hF (by rw [F_Tokens_wordNumber_11]; exact nofun)
  | succ n ih =>
    intro H locs ls s0 v1 v2 v3 v4 v5 v6 hw hl hF
    rw [F_Tokens_wordNumber_11] at hF
    refine lv_iload hx hb d_Tokens_wordNumber_11 (lv_at hl 6 rfl) ?_
    refine k_ldc1 K hw d_Tokens_wordNumber_13 ?_
    refine k_callVI (As := []) (rest := [.int v6]) K hw hl.1 (c_JString_length (l := l) (D := D) (cA := cA) (ad := ad) (s0 := s0) (Nat.le_trans (Nat.le_of_ble_eq_true rfl) hn) (by decide) rfl) (by decide) (tb_gV w_358 w_225 w_226 w_69 w_227) a_JString_length ⟨rfl, rfl, Nat.le_of_ble_eq_true rfl, Nat.le_of_ble_eq_true rfl⟩ rfl rfl (Nat.le_of_ble_eq_true rfl) d_Tokens_wordNumber_15 (fun H locs hw => ?_)
    refine lv_icmp_ge (tgt := 103) hx hb d_Tokens_wordNumber_18 (by decide) (fun c_1 => ?_) (fun c_1 => ?_)
    · replace hF := ifT hF c_1
      refine lv_iconst (v := -1) hx hb d_Tokens_wordNumber_103 (by decide) ?_
      obtain ⟨hF, hG⟩ := sE2 hF
      subst hF
      subst hG
      exact r_iret K hw d_Tokens_wordNumber_104
    · replace hF := ifF hF c_1
      refine k_ldc1 K hw d_Tokens_wordNumber_21 ?_
      refine lv_iload hx hb d_Tokens_wordNumber_23 (lv_at hl 6 rfl) ?_
      obtain ⟨r_2, s_3, h_s_3, hF⟩ := ob2E hF
      refine k_callVI (As := [.int v6]) (rest := []) K hw hl.1 (c_JString_charAt (l := l) (D := D) (cA := cA) (ad := ad) (s0 := s0) (Nat.le_trans (Nat.le_of_ble_eq_true rfl) hn) (by decide) h_s_3) (by decide) (tb_gV w_359 w_235 w_236 w_69 w_237) a_JString_charAt ⟨rfl, rfl, Nat.le_of_ble_eq_true rfl, Nat.le_of_ble_eq_true rfl⟩ rfl rfl (Nat.le_of_ble_eq_true rfl) d_Tokens_wordNumber_25 (fun H locs hw => ?_)
      refine lv_istore (lv' := [(7, .int r_2), (0, .ref (ad 3)), (1, .int v1), (2, .int v2), (3, .int v3), (4, .int v4), (5, .int v5), (6, .int v6)]) hx hb d_Tokens_wordNumber_28 hl (by decide) rfl (fun ls hl => ?_)
      refine lv_iload hx hb d_Tokens_wordNumber_30 (lv_at hl 0 rfl) ?_
      refine lv_bipush (v := 32) hx hb d_Tokens_wordNumber_32 (by decide) ?_
      refine lv_icmp_eq (tgt := 75) hx hb d_Tokens_wordNumber_34 (by decide) (fun c_4 => ?_) (fun c_4 => ?_)
      · replace hF := ifT hF c_4
        refine lv_iload hx hb d_Tokens_wordNumber_75 (lv_at hl 6 rfl) ?_
        refine lv_if_eq (tgt := 88) hx hb d_Tokens_wordNumber_77 (by decide) (fun c_5 => ?_) (fun c_5 => ?_)
        · replace hF := ifT hF c_5
          exact q_Tokens_wordNumber_88 hn K (fun z0 zv1 zv2 zv3 zv4 zv5 zv6 => F_Tokens_wordNumber_11 n z0 zv1 zv2 zv3 zv4 zv5 zv6) ih _ _ _ _ _ _ _ _  hw (lv_sub hl [1, 2, 3, 4, 7] rfl) hF
        · replace hF := ifF hF c_5
          refine lv_iload hx hb d_Tokens_wordNumber_80 (lv_at hl 5 rfl) ?_
          refine lv_iload_n hx hb d_Tokens_wordNumber_82 rfl (lv_at hl 3 rfl) ?_
          refine lv_icmp_ne (tgt := 88) hx hb d_Tokens_wordNumber_83 (by decide) (fun c_6 => ?_) (fun c_6 => ?_)
          · replace hF := ifT hF c_6
            exact q_Tokens_wordNumber_88 hn K (fun z0 zv1 zv2 zv3 zv4 zv5 zv6 => F_Tokens_wordNumber_11 n z0 zv1 zv2 zv3 zv4 zv5 zv6) ih _ _ _ _ _ _ _ _  hw (lv_sub hl [1, 2, 3, 4, 7] rfl) hF
          · replace hF := ifN hF c_6
            refine lv_iload_n hx hb d_Tokens_wordNumber_86 rfl (lv_at hl 4 rfl) ?_
            obtain ⟨hF, hG⟩ := sE2 hF
            subst hF
            subst hG
            exact r_iret K hw d_Tokens_wordNumber_87
      · replace hF := ifF hF c_4
        refine lv_iload hx hb d_Tokens_wordNumber_37 (lv_at hl 6 rfl) ?_
        refine lv_if_eq (tgt := 66) hx hb d_Tokens_wordNumber_39 (by decide) (fun c_7 => ?_) (fun c_7 => ?_)
        · replace hF := ifT hF c_7
          exact q_Tokens_wordNumber_66 hn K (fun z0 zv1 zv2 zv3 zv4 zv5 zv6 => F_Tokens_wordNumber_11 n z0 zv1 zv2 zv3 zv4 zv5 zv6) ih _ _ _ _ _ _ _ _ _  hw (lv_sub hl [1, 2, 3, 4, 5, 7] rfl) hF
        · replace hF := ifF hF c_7
          refine lv_iload hx hb d_Tokens_wordNumber_42 (lv_at hl 5 rfl) ?_
          refine lv_iload_n hx hb d_Tokens_wordNumber_44 rfl (lv_at hl 3 rfl) ?_
          refine lv_icmp_ge (tgt := 66) hx hb d_Tokens_wordNumber_45 (by decide) (fun c_8 => ?_) (fun c_8 => ?_)
          · replace hF := ifT hF c_8
            exact q_Tokens_wordNumber_66 hn K (fun z0 zv1 zv2 zv3 zv4 zv5 zv6 => F_Tokens_wordNumber_11 n z0 zv1 zv2 zv3 zv4 zv5 zv6) ih _ _ _ _ _ _ _ _ _  hw (lv_sub hl [1, 2, 3, 4, 5, 7] rfl) hF
          · replace hF := ifF hF c_8
            refine lv_aload_n hx hb d_Tokens_wordNumber_48 rfl (lv_at hl 1 rfl) ?_
            refine r_get (v := .ref (ad 0)) K hw i_Tokens (sh_Tokens (Nat.le_trans (Nat.le_of_ble_eq_true rfl) hn)) rfl 0 (by decide) w_288 rfl rfl rfl d_Tokens_wordNumber_49 ?_
            refine lv_iload hx hb d_Tokens_wordNumber_52 (lv_at hl 5 rfl) ?_
            obtain ⟨r_9, h_r_9, hF⟩ := ob1E hF
            refine r_callVI (As := [.int v4]) (rest := []) K hw hl.1 (c_Tape_at (l := l) (D := D) (cA := cA) (ad := ad) (s0 := s_3) (Nat.le_trans (Nat.le_of_ble_eq_true rfl) hn)  h_r_9) (sh_Tape (Nat.le_trans (Nat.le_of_ble_eq_true rfl) hn)) rfl (tb_gV w_360 w_339 w_340 w_64 w_341) a_Tape_at ⟨rfl, rfl, Nat.le_of_ble_eq_true rfl, Nat.le_of_ble_eq_true rfl⟩ rfl rfl (Nat.le_of_ble_eq_true rfl) d_Tokens_wordNumber_54 (fun H locs hw => ?_)
            refine lv_iload hx hb d_Tokens_wordNumber_57 (lv_at hl 0 rfl) ?_
            refine lv_icmp_ne (tgt := 66) hx hb d_Tokens_wordNumber_59 (by decide) (fun c_10 => ?_) (fun c_10 => ?_)
            · replace hF := ifT hF c_10
              exact q_Tokens_wordNumber_66 hn K (fun z0 zv1 zv2 zv3 zv4 zv5 zv6 => F_Tokens_wordNumber_11 n z0 zv1 zv2 zv3 zv4 zv5 zv6) ih _ _ _ _ _ _ _ _ _  hw (lv_sub hl [1, 2, 3, 4, 5, 7] rfl) hF
            · replace hF := ifN hF c_10
              refine lv_iconst (v := 1) hx hb d_Tokens_wordNumber_62 (by decide) ?_
              refine lv_goto (tgt := 67) hx hb d_Tokens_wordNumber_63 (by decide) ?_
              exact q_Tokens_wordNumber_67 hn K (fun z0 zv1 zv2 zv3 zv4 zv5 zv6 => F_Tokens_wordNumber_11 n z0 zv1 zv2 zv3 zv4 zv5 zv6) ih _ _ _ _ _ _ _ _ _ _  hw (lv_sub hl [1, 2, 3, 4, 5, 7] rfl) hF
noncomputable def F_Tokens_wordNumber_0 (s0 : St) (v1 : Int32) (v2 : Int32) : Option (Int32 × St) := (F_Tokens_wordNumber_11 FU s0 v1 v2 (0 : Int32) v1 (1 : Int32) (0 : Int32))
set_option maxHeartbeats 4000000 in
set_option maxRecDepth 100000 in
theorem q_Tokens_wordNumber_0 (hn : 4 ≤ nC) (K : Fx p s m args meth c b_Tokens_wordNumber 8 R_Tokens (some .int))  : ∀ (H : Heap) (locs : List Loc) (ls : Array Slot) (s0 : St) (v1 : Int32) (v2 : Int32), Wh D cA ad (shC.take nC) A s s0 H locs → lv_has ls 8 [(0, .ref (ad 3)), (1, .int v1), (2, .int v2)] → F_Tokens_wordNumber_0 s0 v1 v2 = (some (r, τ)) → W p l e rm_Tokens_wordNumber s m args below meth c H locs 0 0 (MQ below (QcI D cA ad (shC.take nC) A r τ) args s 0 0 A) (F0 m 0 ls []) := by
  have hx := K.1.1; have hb := K.1.2.1
  intro H locs ls s0 v1 v2 hw hl hF
  unfold F_Tokens_wordNumber_0 at hF
  refine lv_iconst (v := 0) hx hb d_Tokens_wordNumber_0 (by decide) ?_
  refine lv_istore_n (lv' := [(3, .int (0 : Int32)), (0, .ref (ad 3)), (1, .int v1), (2, .int v2)]) hx hb d_Tokens_wordNumber_1 rfl hl (by decide) rfl (fun ls hl => ?_)
  refine lv_iload_n hx hb d_Tokens_wordNumber_2 rfl (lv_at hl 2 rfl) ?_
  refine lv_istore (lv' := [(4, .int v1), (3, .int (0 : Int32)), (0, .ref (ad 3)), (1, .int v1), (2, .int v2)]) hx hb d_Tokens_wordNumber_3 hl (by decide) rfl (fun ls hl => ?_)
  refine lv_iconst (v := 1) hx hb d_Tokens_wordNumber_5 (by decide) ?_
  refine lv_istore (lv' := [(5, .int (1 : Int32)), (4, .int v1), (3, .int (0 : Int32)), (0, .ref (ad 3)), (1, .int v1), (2, .int v2)]) hx hb d_Tokens_wordNumber_6 hl (by decide) rfl (fun ls hl => ?_)
  refine lv_iconst (v := 0) hx hb d_Tokens_wordNumber_8 (by decide) ?_
  refine lv_istore (lv' := [(6, .int (0 : Int32)), (5, .int (1 : Int32)), (4, .int v1), (3, .int (0 : Int32)), (0, .ref (ad 3)), (1, .int v1), (2, .int v2)]) hx hb d_Tokens_wordNumber_9 hl (by decide) rfl (fun ls hl => ?_)
  exact q_Tokens_wordNumber_11 hn K FU _ _ _ _ _ _ _ _ _ _  hw (lv_sub hl [4, 5, 6, 3, 2, 1, 0] rfl) hF
end S_Tokens_wordNumber
noncomputable abbrev F_Tokens_wordNumber := F_Tokens_wordNumber_0
theorem c_Tokens_wordNumber {l : Launch} {D : va_G} {cA : Nat → ClassId} {ad : Nat → Nat} {s0 τ : St} {nC : Nat} (hn : 4 ≤ nC) {r : Int32} {v1 : Int32} {v2 : Int32}  (hF : F_Tokens_wordNumber s0 v1 v2 = (some (r, τ))) : MI l D cA ad (shC.take nC) y_Tokens_wordNumber (wT y_Tokens_wordNumber b_Tokens_wordNumber 8 (some .int)) rm_Tokens_wordNumber [.ref (ad 3), .int v1, .int v2] s0 r τ := fun sz => m_start (Qc := fun A => QcI D cA ad (shC.take nC) A r τ) (by decide +kernel) w_356 (Nat.le_of_ble_eq_true rfl) (fun p e s m below meth c ls K hl hw => q_Tokens_wordNumber_0 hn K _ _ _ _ _ _  hw hl hF)

/-! Tokens.takeWord()V -/
abbrev b_Tokens_takeWord : ByteArray := prog_11_method_7_code
def y_Tokens_takeWord : MethodName := ⟨R_Tokens, "takeWord", "()V"⟩
theorem a_Tokens_takeWord : y_Tokens_takeWord.cls = R_Tokens ∧ y_Tokens_takeWord.cls ≠ "java/lang/invoke/MethodHandle" ∧ y_Tokens_takeWord.cls ≠ "java/lang/invoke/VarHandle" ∧ (parseMethodDescriptor y_Tokens_takeWord.desc).map (fun d => d.parameters.length) = some 0 := by decide +kernel
abbrev rm_Tokens_takeWord : Room := { frames := 5, cells := 0, slots := 0, locals := 112 }
theorem w_353 : Cond.methodLink R_Tokens 58 y_Tokens_wordNumber ∈ TB := tb_in 353 (by decide +kernel) (by decide +kernel)
theorem w_355 : Cond.instanceMethod y_Tokens_wordNumber ∈ TB := tb_in 355 (by decide +kernel) (by decide +kernel)
theorem w_1 : Cond.selects R_Tokens y_Tokens_wordNumber y_Tokens_wordNumber ∈ TB := tb_in 1 (by decide +kernel) (by decide +kernel)
theorem w_342 : Cond.methodLink R_Tokens 39 y_Tape_isLetter ∈ TB := tb_in 342 (by decide +kernel) (by decide +kernel)
theorem w_343 : Cond.instanceMethod y_Tape_isLetter ∈ TB := tb_in 343 (by decide +kernel) (by decide +kernel)
theorem w_344 : Cond.selects R_Tape y_Tape_isLetter y_Tape_isLetter ∈ TB := tb_in 344 (by decide +kernel) (by decide +kernel)
theorem w_352 : Cond.code y_Tokens_takeWord b_Tokens_takeWord 3 none ∈ TB := tb_in 352 (by decide +kernel) (by decide +kernel)
theorem d_Tokens_takeWord_0 : decode b_Tokens_takeWord 0 = .ok (.aload_n 0, 1) := by decide +kernel
theorem d_Tokens_takeWord_1 : decode b_Tokens_takeWord 1 = .ok (.getfield 29, 3) := by decide +kernel
theorem d_Tokens_takeWord_4 : decode b_Tokens_takeWord 4 = .ok (.istore_n 1, 1) := by decide +kernel
theorem d_Tokens_takeWord_5 : decode b_Tokens_takeWord 5 = .ok (.iload_n 1, 1) := by decide +kernel
theorem d_Tokens_takeWord_6 : decode b_Tokens_takeWord 6 = .ok (.istore_n 2, 1) := by decide +kernel
theorem d_Tokens_takeWord_7 : decode b_Tokens_takeWord 7 = .ok (.iload_n 2, 1) := by decide +kernel
theorem d_Tokens_takeWord_8 : decode b_Tokens_takeWord 8 = .ok (.aload_n 0, 1) := by decide +kernel
theorem d_Tokens_takeWord_9 : decode b_Tokens_takeWord 9 = .ok (.getfield 21, 3) := by decide +kernel
theorem d_Tokens_takeWord_12 : decode b_Tokens_takeWord 12 = .ok (.getfield 32, 3) := by decide +kernel
theorem d_Tokens_takeWord_15 : decode b_Tokens_takeWord 15 = .ok (.if_icmp .ge 30, 3) := by decide +kernel
theorem d_Tokens_takeWord_18 : decode b_Tokens_takeWord 18 = .ok (.aload_n 0, 1) := by decide +kernel
theorem d_Tokens_takeWord_19 : decode b_Tokens_takeWord 19 = .ok (.getfield 21, 3) := by decide +kernel
theorem d_Tokens_takeWord_22 : decode b_Tokens_takeWord 22 = .ok (.iload_n 2, 1) := by decide +kernel
theorem d_Tokens_takeWord_23 : decode b_Tokens_takeWord 23 = .ok (.invokevirtual 39, 3) := by decide +kernel
theorem d_Tokens_takeWord_26 : decode b_Tokens_takeWord 26 = .ok (.ifCond .eq 19, 3) := by decide +kernel
theorem d_Tokens_takeWord_29 : decode b_Tokens_takeWord 29 = .ok (.aload_n 0, 1) := by decide +kernel
theorem d_Tokens_takeWord_30 : decode b_Tokens_takeWord 30 = .ok (.dup, 1) := by decide +kernel
theorem d_Tokens_takeWord_31 : decode b_Tokens_takeWord 31 = .ok (.getfield 29, 3) := by decide +kernel
theorem d_Tokens_takeWord_34 : decode b_Tokens_takeWord 34 = .ok (.iconst 1, 1) := by decide +kernel
theorem d_Tokens_takeWord_35 : decode b_Tokens_takeWord 35 = .ok (.iadd, 1) := by decide +kernel
theorem d_Tokens_takeWord_36 : decode b_Tokens_takeWord 36 = .ok (.putfield 29, 3) := by decide +kernel
theorem d_Tokens_takeWord_39 : decode b_Tokens_takeWord 39 = .ok (.iinc 2 1, 3) := by decide +kernel
theorem d_Tokens_takeWord_42 : decode b_Tokens_takeWord 42 = .ok (.goto (-35), 3) := by decide +kernel
theorem d_Tokens_takeWord_45 : decode b_Tokens_takeWord 45 = .ok (.aload_n 0, 1) := by decide +kernel
theorem d_Tokens_takeWord_46 : decode b_Tokens_takeWord 46 = .ok (.iload_n 1, 1) := by decide +kernel
theorem d_Tokens_takeWord_47 : decode b_Tokens_takeWord 47 = .ok (.aload_n 0, 1) := by decide +kernel
theorem d_Tokens_takeWord_48 : decode b_Tokens_takeWord 48 = .ok (.getfield 29, 3) := by decide +kernel
theorem d_Tokens_takeWord_51 : decode b_Tokens_takeWord 51 = .ok (.invokevirtual 58, 3) := by decide +kernel
theorem d_Tokens_takeWord_54 : decode b_Tokens_takeWord 54 = .ok (.istore_n 2, 1) := by decide +kernel
theorem d_Tokens_takeWord_55 : decode b_Tokens_takeWord 55 = .ok (.iload_n 2, 1) := by decide +kernel
theorem d_Tokens_takeWord_56 : decode b_Tokens_takeWord 56 = .ok (.iconst (-1), 1) := by decide +kernel
theorem d_Tokens_takeWord_57 : decode b_Tokens_takeWord 57 = .ok (.if_icmp .ne 13, 3) := by decide +kernel
theorem d_Tokens_takeWord_60 : decode b_Tokens_takeWord 60 = .ok (.aload_n 0, 1) := by decide +kernel
theorem d_Tokens_takeWord_61 : decode b_Tokens_takeWord 61 = .ok (.iconst 1, 1) := by decide +kernel
theorem d_Tokens_takeWord_62 : decode b_Tokens_takeWord 62 = .ok (.iconst 0, 1) := by decide +kernel
theorem d_Tokens_takeWord_63 : decode b_Tokens_takeWord 63 = .ok (.iload_n 1, 1) := by decide +kernel
theorem d_Tokens_takeWord_64 : decode b_Tokens_takeWord 64 = .ok (.invokevirtual 54, 3) := by decide +kernel
theorem d_Tokens_takeWord_67 : decode b_Tokens_takeWord 67 = .ok (.goto 32, 3) := by decide +kernel
theorem d_Tokens_takeWord_70 : decode b_Tokens_takeWord 70 = .ok (.iload_n 2, 1) := by decide +kernel
theorem d_Tokens_takeWord_71 : decode b_Tokens_takeWord 71 = .ok (.bipush 6, 2) := by decide +kernel
theorem d_Tokens_takeWord_73 : decode b_Tokens_takeWord 73 = .ok (.if_icmp .ge 16, 3) := by decide +kernel
theorem d_Tokens_takeWord_76 : decode b_Tokens_takeWord 76 = .ok (.aload_n 0, 1) := by decide +kernel
theorem d_Tokens_takeWord_77 : decode b_Tokens_takeWord 77 = .ok (.bipush 10, 2) := by decide +kernel
theorem d_Tokens_takeWord_79 : decode b_Tokens_takeWord 79 = .ok (.iload_n 2, 1) := by decide +kernel
theorem d_Tokens_takeWord_80 : decode b_Tokens_takeWord 80 = .ok (.iadd, 1) := by decide +kernel
theorem d_Tokens_takeWord_81 : decode b_Tokens_takeWord 81 = .ok (.iconst 0, 1) := by decide +kernel
theorem d_Tokens_takeWord_82 : decode b_Tokens_takeWord 82 = .ok (.iload_n 1, 1) := by decide +kernel
theorem d_Tokens_takeWord_83 : decode b_Tokens_takeWord 83 = .ok (.invokevirtual 54, 3) := by decide +kernel
theorem d_Tokens_takeWord_86 : decode b_Tokens_takeWord 86 = .ok (.goto 13, 3) := by decide +kernel
theorem d_Tokens_takeWord_89 : decode b_Tokens_takeWord 89 = .ok (.aload_n 0, 1) := by decide +kernel
theorem d_Tokens_takeWord_90 : decode b_Tokens_takeWord 90 = .ok (.iconst 3, 1) := by decide +kernel
theorem d_Tokens_takeWord_91 : decode b_Tokens_takeWord 91 = .ok (.iload_n 2, 1) := by decide +kernel
theorem d_Tokens_takeWord_92 : decode b_Tokens_takeWord 92 = .ok (.bipush 6, 2) := by decide +kernel
theorem d_Tokens_takeWord_94 : decode b_Tokens_takeWord 94 = .ok (.isub, 1) := by decide +kernel
theorem d_Tokens_takeWord_95 : decode b_Tokens_takeWord 95 = .ok (.iload_n 1, 1) := by decide +kernel
theorem d_Tokens_takeWord_96 : decode b_Tokens_takeWord 96 = .ok (.invokevirtual 54, 3) := by decide +kernel
theorem d_Tokens_takeWord_99 : decode b_Tokens_takeWord 99 = .ok (.return_, 1) := by decide +kernel
section S_Tokens_takeWord
variable {p : Program} {l : Launch} {e : Env} {s : State} {m : MethodId} {args : Array Value} {below : List Frame} {meth : Method} {c : Code} {D : va_G} {cA : Nat → ClassId} {ad : Nat → Nat} {nC : Nat} {A : Nat → Prop} {τ : St}
noncomputable def F_Tokens_takeWord_45 (s0 : St) (v1 : Int32) : Option St := (ob2 (F_Tokens_wordNumber s0 v1 (s0.1 3 5)) (fun r_2 s_3 => (if ¬ r_2 = (-1 : Int32) then (if (6 : Int32) ≤ r_2 then (ob1 (F_Tokens_add s_3 (3 : Int32) (r_2 - (6 : Int32)) v1) (fun s_6 => (some s_6))) else (ob1 (F_Tokens_add s_3 ((10 : Int32) + r_2) (0 : Int32) v1) (fun s_7 => (some s_7)))) else (ob1 (F_Tokens_add s_3 (1 : Int32) (0 : Int32) v1) (fun s_8 => (some s_8))))))
set_option maxHeartbeats 4000000 in
set_option maxRecDepth 100000 in
theorem q_Tokens_takeWord_45 (hn : 7 ≤ nC) (K : Fx p s m args meth c b_Tokens_takeWord 3 R_Tokens none)  : ∀ (H : Heap) (locs : List Loc) (ls : Array Slot) (s0 : St) (v1 : Int32), Wh D cA ad (shC.take nC) A s s0 H locs → lv_has ls 3 [(0, .ref (ad 3)), (1, .int v1)] → F_Tokens_takeWord_45 s0 v1 = (some τ) → W p l e rm_Tokens_takeWord s m args below meth c H locs 0 0 (MQ below (QcV D cA ad (shC.take nC) A τ) args s 0 0 A) (F0 m 45 ls []) := by
  have hx := K.1.1; have hb := K.1.2.1
  intro H locs ls s0 v1 hw hl hF
  unfold F_Tokens_takeWord_45 at hF
  refine lv_aload_n hx hb d_Tokens_takeWord_45 rfl (lv_at hl 0 rfl) ?_
  refine lv_iload_n hx hb d_Tokens_takeWord_46 rfl (lv_at hl 1 rfl) ?_
  refine lv_aload_n hx hb d_Tokens_takeWord_47 rfl (lv_at hl 0 rfl) ?_
  refine r_get (v := .int (s0.1 3 5)) K hw i_Tokens (sh_Tokens (Nat.le_trans (Nat.le_of_ble_eq_true rfl) hn)) rfl 5 (by decide) w_293 rfl rfl rfl d_Tokens_takeWord_48 ?_
  obtain ⟨r_2, s_3, h_s_3, hF⟩ := ob2E hF
  refine r_callVI (As := [.int v1, .int (s0.1 3 5)]) (rest := []) K hw hl.1 (c_Tokens_wordNumber (l := l) (D := D) (cA := cA) (ad := ad) (s0 := s0) (Nat.le_trans (Nat.le_of_ble_eq_true rfl) hn)  h_s_3) (sh_Tokens (Nat.le_trans (Nat.le_of_ble_eq_true rfl) hn)) rfl (tb_gV w_353 w_355 w_1 w_74 w_356) a_Tokens_wordNumber ⟨rfl, rfl, Nat.le_of_ble_eq_true rfl, Nat.le_of_ble_eq_true rfl⟩ rfl rfl (Nat.le_of_ble_eq_true rfl) d_Tokens_takeWord_51 (fun H locs hw => ?_)
  refine lv_istore_n (lv' := [(2, .int r_2), (0, .ref (ad 3)), (1, .int v1)]) hx hb d_Tokens_takeWord_54 rfl hl (by decide) rfl (fun ls hl => ?_)
  refine lv_iload_n hx hb d_Tokens_takeWord_55 rfl (lv_at hl 0 rfl) ?_
  refine lv_iconst (v := -1) hx hb d_Tokens_takeWord_56 (by decide) ?_
  refine lv_icmp_ne (tgt := 70) hx hb d_Tokens_takeWord_57 (by decide) (fun c_4 => ?_) (fun c_4 => ?_)
  · replace hF := ifT hF c_4
    refine lv_iload_n hx hb d_Tokens_takeWord_70 rfl (lv_at hl 0 rfl) ?_
    refine lv_bipush (v := 6) hx hb d_Tokens_takeWord_71 (by decide) ?_
    refine lv_icmp_ge (tgt := 89) hx hb d_Tokens_takeWord_73 (by decide) (fun c_5 => ?_) (fun c_5 => ?_)
    · replace hF := ifT hF c_5
      refine lv_aload_n hx hb d_Tokens_takeWord_89 rfl (lv_at hl 1 rfl) ?_
      refine lv_iconst (v := 3) hx hb d_Tokens_takeWord_90 (by decide) ?_
      refine lv_iload_n hx hb d_Tokens_takeWord_91 rfl (lv_at hl 0 rfl) ?_
      refine lv_bipush (v := 6) hx hb d_Tokens_takeWord_92 (by decide) ?_
      refine lv_isub hx hb d_Tokens_takeWord_94 ?_
      refine lv_iload_n hx hb d_Tokens_takeWord_95 rfl (lv_at hl 2 rfl) ?_
      obtain ⟨s_6, h_s_6, hF⟩ := ob1E hF
      refine r_callVV (As := [.int (3 : Int32), .int (r_2 - (6 : Int32)), .int v1]) (rest := []) K hw hl.1 (c_Tokens_add (l := l) (D := D) (cA := cA) (ad := ad) (s0 := s_3) (Nat.le_trans (Nat.le_of_ble_eq_true rfl) hn)  h_s_6) (sh_Tokens (Nat.le_trans (Nat.le_of_ble_eq_true rfl) hn)) rfl (tb_gV w_361 w_363 w_2 w_74 w_364) a_Tokens_add ⟨rfl, rfl, Nat.le_of_ble_eq_true rfl, Nat.le_of_ble_eq_true rfl⟩ rfl rfl (Nat.le_of_ble_eq_true rfl) d_Tokens_takeWord_96 (fun H locs hw => ?_)
      replace hF := sE1 hF
      subst hF
      exact r_vret K hw d_Tokens_takeWord_99
    · replace hF := ifF hF c_5
      refine lv_aload_n hx hb d_Tokens_takeWord_76 rfl (lv_at hl 1 rfl) ?_
      refine lv_bipush (v := 10) hx hb d_Tokens_takeWord_77 (by decide) ?_
      refine lv_iload_n hx hb d_Tokens_takeWord_79 rfl (lv_at hl 0 rfl) ?_
      refine lv_iadd hx hb d_Tokens_takeWord_80 ?_
      refine lv_iconst (v := 0) hx hb d_Tokens_takeWord_81 (by decide) ?_
      refine lv_iload_n hx hb d_Tokens_takeWord_82 rfl (lv_at hl 2 rfl) ?_
      obtain ⟨s_7, h_s_7, hF⟩ := ob1E hF
      refine r_callVV (As := [.int ((10 : Int32) + r_2), .int (0 : Int32), .int v1]) (rest := []) K hw hl.1 (c_Tokens_add (l := l) (D := D) (cA := cA) (ad := ad) (s0 := s_3) (Nat.le_trans (Nat.le_of_ble_eq_true rfl) hn)  h_s_7) (sh_Tokens (Nat.le_trans (Nat.le_of_ble_eq_true rfl) hn)) rfl (tb_gV w_361 w_363 w_2 w_74 w_364) a_Tokens_add ⟨rfl, rfl, Nat.le_of_ble_eq_true rfl, Nat.le_of_ble_eq_true rfl⟩ rfl rfl (Nat.le_of_ble_eq_true rfl) d_Tokens_takeWord_83 (fun H locs hw => ?_)
      refine lv_goto (tgt := 99) hx hb d_Tokens_takeWord_86 (by decide) ?_
      replace hF := sE1 hF
      subst hF
      exact r_vret K hw d_Tokens_takeWord_99
  · replace hF := ifN hF c_4
    refine lv_aload_n hx hb d_Tokens_takeWord_60 rfl (lv_at hl 1 rfl) ?_
    refine lv_iconst (v := 1) hx hb d_Tokens_takeWord_61 (by decide) ?_
    refine lv_iconst (v := 0) hx hb d_Tokens_takeWord_62 (by decide) ?_
    refine lv_iload_n hx hb d_Tokens_takeWord_63 rfl (lv_at hl 2 rfl) ?_
    obtain ⟨s_8, h_s_8, hF⟩ := ob1E hF
    refine r_callVV (As := [.int (1 : Int32), .int (0 : Int32), .int v1]) (rest := []) K hw hl.1 (c_Tokens_add (l := l) (D := D) (cA := cA) (ad := ad) (s0 := s_3) (Nat.le_trans (Nat.le_of_ble_eq_true rfl) hn)  h_s_8) (sh_Tokens (Nat.le_trans (Nat.le_of_ble_eq_true rfl) hn)) rfl (tb_gV w_361 w_363 w_2 w_74 w_364) a_Tokens_add ⟨rfl, rfl, Nat.le_of_ble_eq_true rfl, Nat.le_of_ble_eq_true rfl⟩ rfl rfl (Nat.le_of_ble_eq_true rfl) d_Tokens_takeWord_64 (fun H locs hw => ?_)
    refine lv_goto (tgt := 99) hx hb d_Tokens_takeWord_67 (by decide) ?_
    replace hF := sE1 hF
    subst hF
    exact r_vret K hw d_Tokens_takeWord_99
noncomputable def F_Tokens_takeWord_7 : Nat → St → Int32 → Int32 → Option St
  | 0, _, _, _ => none
  | n + 1, s0, v1, v2 => (if (s0.1 0 1) ≤ v2 then (F_Tokens_takeWord_45 s0 v1) else (ob1 (F_Tape_isLetter s0 v2) (fun r_9 => (if r_9 = 0 then (F_Tokens_takeWord_45 s0 v1) else (lt (up1 s0 3 5 ((s0.1 3 5) + (1 : Int32))) (fun s_11 => (F_Tokens_takeWord_7 n s_11 v1 (v2 + 1))))))))
set_option maxHeartbeats 4000000 in
set_option maxRecDepth 100000 in
theorem q_Tokens_takeWord_7 (hn : 7 ≤ nC) (K : Fx p s m args meth c b_Tokens_takeWord 3 R_Tokens none)  : ∀ (n : Nat), ∀ (H : Heap) (locs : List Loc) (ls : Array Slot) (s0 : St) (v1 : Int32) (v2 : Int32), Wh D cA ad (shC.take nC) A s s0 H locs → lv_has ls 3 [(0, .ref (ad 3)), (1, .int v1), (2, .int v2)] → F_Tokens_takeWord_7 n s0 v1 v2 = (some τ) → W p l e rm_Tokens_takeWord s m args below meth c H locs 0 0 (MQ below (QcV D cA ad (shC.take nC) A τ) args s 0 0 A) (F0 m 7 ls []) := by
  have hx := K.1.1; have hb := K.1.2.1
  intro n
  induction n with
  | zero =>
    intro H locs ls s0 v1 v2 hw hl hF
    exact absurd hF (by rw [F_Tokens_takeWord_7]; exact nofun)
  | succ n ih =>
    intro H locs ls s0 v1 v2 hw hl hF
    rw [F_Tokens_takeWord_7] at hF
    refine lv_iload_n hx hb d_Tokens_takeWord_7 rfl (lv_at hl 2 rfl) ?_
    refine lv_aload_n hx hb d_Tokens_takeWord_8 rfl (lv_at hl 0 rfl) ?_
    refine r_get (v := .ref (ad 0)) K hw i_Tokens (sh_Tokens (Nat.le_trans (Nat.le_of_ble_eq_true rfl) hn)) rfl 0 (by decide) w_288 rfl rfl rfl d_Tokens_takeWord_9 ?_
    refine r_get (v := .int (s0.1 0 1)) K hw i_Tape (sh_Tape (Nat.le_trans (Nat.le_of_ble_eq_true rfl) hn)) rfl 1 (by decide) w_103 rfl rfl rfl d_Tokens_takeWord_12 ?_
    refine lv_icmp_ge (tgt := 45) hx hb d_Tokens_takeWord_15 (by decide) (fun c_1 => ?_) (fun c_1 => ?_)
    · replace hF := ifT hF c_1
      exact q_Tokens_takeWord_45 hn K _ _ _ _ _  hw (lv_sub hl [0, 1] rfl) hF
    · replace hF := ifF hF c_1
      refine lv_aload_n hx hb d_Tokens_takeWord_18 rfl (lv_at hl 0 rfl) ?_
      refine r_get (v := .ref (ad 0)) K hw i_Tokens (sh_Tokens (Nat.le_trans (Nat.le_of_ble_eq_true rfl) hn)) rfl 0 (by decide) w_288 rfl rfl rfl d_Tokens_takeWord_19 ?_
      refine lv_iload_n hx hb d_Tokens_takeWord_22 rfl (lv_at hl 2 rfl) ?_
      obtain ⟨r_9, h_r_9, hF⟩ := ob1E hF
      refine r_callVI (As := [.int v2]) (rest := []) K hw hl.1 (c_Tape_isLetter (l := l) (D := D) (cA := cA) (ad := ad) (s0 := s0) (Nat.le_trans (Nat.le_of_ble_eq_true rfl) hn)  h_r_9) (sh_Tape (Nat.le_trans (Nat.le_of_ble_eq_true rfl) hn)) rfl (tb_gV w_342 w_343 w_344 w_64 w_345) a_Tape_isLetter ⟨rfl, rfl, Nat.le_of_ble_eq_true rfl, Nat.le_of_ble_eq_true rfl⟩ rfl rfl (Nat.le_of_ble_eq_true rfl) d_Tokens_takeWord_23 (fun H locs hw => ?_)
      refine lv_if_eq (tgt := 45) hx hb d_Tokens_takeWord_26 (by decide) (fun c_10 => ?_) (fun c_10 => ?_)
      · replace hF := ifT hF c_10
        exact q_Tokens_takeWord_45 hn K _ _ _ _ _  hw (lv_sub hl [0, 1] rfl) hF
      · replace hF := ifF hF c_10
        refine lv_aload_n hx hb d_Tokens_takeWord_29 rfl (lv_at hl 0 rfl) ?_
        refine lv_dup hx hb d_Tokens_takeWord_30 rfl ?_
        refine r_get (v := .int (s0.1 3 5)) K hw i_Tokens (sh_Tokens (Nat.le_trans (Nat.le_of_ble_eq_true rfl) hn)) rfl 5 (by decide) w_293 rfl rfl rfl d_Tokens_takeWord_31 ?_
        refine lv_iconst (v := 1) hx hb d_Tokens_takeWord_34 (by decide) ?_
        refine lv_iadd hx hb d_Tokens_takeWord_35 ?_
        refine r_putI K hw i_Tokens t_Tokens t_Tokens_ok n_Tokens (sh_Tokens (Nat.le_trans (Nat.le_of_ble_eq_true rfl) hn)) rfl 5 (by decide) w_293 rfl rfl rfl rfl rfl d_Tokens_takeWord_36 (fun s_11 f_s_11 H locs hw => ?_)
        replace hF := ltN hF f_s_11
        refine lv_iinc (v := (v2 + 1)) (lv' := [(2, .int (v2 + 1)), (0, .ref (ad 3)), (1, .int v1)]) hx hb d_Tokens_takeWord_39 hl (k := 2) rfl rfl (by decide) rfl (fun ls hl => ?_)
        refine lv_goto (tgt := 7) hx hb d_Tokens_takeWord_42 (by decide) ?_
        exact ih _ _ _ _ _ _  hw (lv_sub hl [1, 2, 0] rfl) hF
noncomputable def F_Tokens_takeWord_0 (s0 : St) : Option St := (F_Tokens_takeWord_7 FU s0 (s0.1 3 5) (s0.1 3 5))
set_option maxHeartbeats 4000000 in
set_option maxRecDepth 100000 in
theorem q_Tokens_takeWord_0 (hn : 7 ≤ nC) (K : Fx p s m args meth c b_Tokens_takeWord 3 R_Tokens none)  : ∀ (H : Heap) (locs : List Loc) (ls : Array Slot) (s0 : St), Wh D cA ad (shC.take nC) A s s0 H locs → lv_has ls 3 [(0, .ref (ad 3))] → F_Tokens_takeWord_0 s0 = (some τ) → W p l e rm_Tokens_takeWord s m args below meth c H locs 0 0 (MQ below (QcV D cA ad (shC.take nC) A τ) args s 0 0 A) (F0 m 0 ls []) := by
  have hx := K.1.1; have hb := K.1.2.1
  intro H locs ls s0 hw hl hF
  unfold F_Tokens_takeWord_0 at hF
  refine lv_aload_n hx hb d_Tokens_takeWord_0 rfl (lv_at hl 0 rfl) ?_
  refine r_get (v := .int (s0.1 3 5)) K hw i_Tokens (sh_Tokens (Nat.le_trans (Nat.le_of_ble_eq_true rfl) hn)) rfl 5 (by decide) w_293 rfl rfl rfl d_Tokens_takeWord_1 ?_
  refine lv_istore_n (lv' := [(1, .int (s0.1 3 5)), (0, .ref (ad 3))]) hx hb d_Tokens_takeWord_4 rfl hl (by decide) rfl (fun ls hl => ?_)
  refine lv_iload_n hx hb d_Tokens_takeWord_5 rfl (lv_at hl 0 rfl) ?_
  refine lv_istore_n (lv' := [(2, .int (s0.1 3 5)), (1, .int (s0.1 3 5)), (0, .ref (ad 3))]) hx hb d_Tokens_takeWord_6 rfl hl (by decide) rfl (fun ls hl => ?_)
  exact q_Tokens_takeWord_7 hn K FU _ _ _ _ _ _  hw (lv_sub hl [2, 1, 0] rfl) hF
end S_Tokens_takeWord
noncomputable abbrev F_Tokens_takeWord := F_Tokens_takeWord_0
theorem c_Tokens_takeWord {l : Launch} {D : va_G} {cA : Nat → ClassId} {ad : Nat → Nat} {s0 τ : St} {nC : Nat} (hn : 7 ≤ nC)   (hF : F_Tokens_takeWord s0 = (some τ)) : MV l D cA ad (shC.take nC) y_Tokens_takeWord (wT y_Tokens_takeWord b_Tokens_takeWord 3 none) rm_Tokens_takeWord [.ref (ad 3)] s0 τ := fun sz => m_start (Qc := fun A => QcV D cA ad (shC.take nC) A τ) (by decide +kernel) w_352 (Nat.le_of_ble_eq_true rfl) (fun p e s m below meth c ls K hl hw => q_Tokens_takeWord_0 hn K _ _ _ _   hw hl hF)
