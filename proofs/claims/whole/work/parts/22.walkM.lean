/-! Model.in(III)Z -/
abbrev b_Model_in : ByteArray := prog_13_method_3_code
def y_Model_in : MethodName := ⟨R_Model, "in", "(III)Z"⟩
theorem a_Model_in : y_Model_in.cls = R_Model ∧ y_Model_in.cls ≠ "java/lang/invoke/MethodHandle" ∧ y_Model_in.cls ≠ "java/lang/invoke/VarHandle" ∧ (parseMethodDescriptor y_Model_in.desc).map (fun d => d.parameters.length) = some 3 := by decide +kernel
abbrev rm_Model_in : Room := { frames := 0, cells := 0, slots := 0, locals := 0 }
theorem w_988 : Cond.code y_Model_in b_Model_in 3 (some .boolean) ∈ TB := tb_in 988 (by decide +kernel) (by decide +kernel)
theorem d_Model_in_0 : decode b_Model_in 0 = .ok (.iload_n 0, 1) := by decide +kernel
theorem d_Model_in_1 : decode b_Model_in 1 = .ok (.iload_n 1, 1) := by decide +kernel
theorem d_Model_in_2 : decode b_Model_in 2 = .ok (.if_icmp .lt 12, 3) := by decide +kernel
theorem d_Model_in_5 : decode b_Model_in 5 = .ok (.iload_n 0, 1) := by decide +kernel
theorem d_Model_in_6 : decode b_Model_in 6 = .ok (.iload_n 2, 1) := by decide +kernel
theorem d_Model_in_7 : decode b_Model_in 7 = .ok (.if_icmp .gt 7, 3) := by decide +kernel
theorem d_Model_in_10 : decode b_Model_in 10 = .ok (.iconst 1, 1) := by decide +kernel
theorem d_Model_in_11 : decode b_Model_in 11 = .ok (.goto 4, 3) := by decide +kernel
theorem d_Model_in_14 : decode b_Model_in 14 = .ok (.iconst 0, 1) := by decide +kernel
theorem d_Model_in_15 : decode b_Model_in 15 = .ok (.ireturn, 1) := by decide +kernel
section S_Model_in
variable {p : Program} {l : Launch} {e : Env} {s : State} {m : MethodId} {args : Array Value} {below : List Frame} {meth : Method} {c : Code} {D : va_G} {cA : Nat → ClassId} {ad : Nat → Nat} {nC : Nat} {A : Nat → Prop} {r : Int32} {τ : St}
noncomputable def F_Model_in_0 (v0 : Int32) (v1 : Int32) (v2 : Int32) : Int32 := (if v0 < v1 then (0 : Int32) else (if v2 < v0 then (0 : Int32) else (1 : Int32)))
set_option maxHeartbeats 4000000 in
set_option maxRecDepth 100000 in
theorem q_Model_in_0 (s0 : St) (K : Fx p s m args meth c b_Model_in 3 R_Model (some .boolean))  : ∀ (H : Heap) (locs : List Loc) (ls : Array Slot) (v0 : Int32) (v1 : Int32) (v2 : Int32), Wh D cA ad shM A s s0 H locs → lv_has ls 3 [(0, .int v0), (1, .int v1), (2, .int v2)] → F_Model_in_0 v0 v1 v2 = r → W p l e rm_Model_in s m args below meth c H locs 0 0 (MQ below (QcI D cA ad shM A r s0) args s 0 0 A) (F0 m 0 ls []) := by
  have hx := K.1.1; have hb := K.1.2.1
  intro H locs ls v0 v1 v2 hw hl hF
  unfold F_Model_in_0 at hF
  refine lv_iload_n hx hb d_Model_in_0 rfl (lv_at hl 0 rfl) ?_
  refine lv_iload_n hx hb d_Model_in_1 rfl (lv_at hl 1 rfl) ?_
  refine lv_icmp_lt (tgt := 14) hx hb d_Model_in_2 (by decide) (fun c_1 => ?_) (fun c_1 => ?_)
  · replace hF := ifT hF c_1
    refine lv_iconst (v := 0) hx hb d_Model_in_14 (by decide) ?_
    subst hF
    exact r_zret K hw (by decide) d_Model_in_15
  · replace hF := ifF hF c_1
    refine lv_iload_n hx hb d_Model_in_5 rfl (lv_at hl 0 rfl) ?_
    refine lv_iload_n hx hb d_Model_in_6 rfl (lv_at hl 2 rfl) ?_
    refine lv_icmp_gt (tgt := 14) hx hb d_Model_in_7 (by decide) (fun c_2 => ?_) (fun c_2 => ?_)
    · replace hF := ifT hF c_2
      refine lv_iconst (v := 0) hx hb d_Model_in_14 (by decide) ?_
      subst hF
      exact r_zret K hw (by decide) d_Model_in_15
    · replace hF := ifF hF c_2
      refine lv_iconst (v := 1) hx hb d_Model_in_10 (by decide) ?_
      refine lv_goto (tgt := 15) hx hb d_Model_in_11 (by decide) ?_
      subst hF
      exact r_zret K hw (by decide) d_Model_in_15
end S_Model_in
noncomputable abbrev F_Model_in := F_Model_in_0
theorem c_Model_in {l : Launch} {D : va_G} {cA : Nat → ClassId} {ad : Nat → Nat} {s0 : St} {r : Int32} {v0 : Int32} {v1 : Int32} {v2 : Int32}  (hF : F_Model_in v0 v1 v2 = r) : MI l D cA ad shM y_Model_in (wT y_Model_in b_Model_in 3 (some .boolean)) rm_Model_in [.int v0, .int v1, .int v2] s0 r s0 := fun sz => m_start (Qc := fun A => QcI D cA ad shM A r s0) (by decide +kernel) w_988 (Nat.le_of_ble_eq_true rfl) (fun p e s m below meth c ls K hl hw => q_Model_in_0 s0 K _ _ _ _ _ _  hw hl hF)

/-! Model.within(III)I -/
abbrev b_Model_within : ByteArray := prog_13_method_4_code
def y_Model_within : MethodName := ⟨R_Model, "within", "(III)I"⟩
theorem a_Model_within : y_Model_within.cls = R_Model ∧ y_Model_within.cls ≠ "java/lang/invoke/MethodHandle" ∧ y_Model_within.cls ≠ "java/lang/invoke/VarHandle" ∧ (parseMethodDescriptor y_Model_within.desc).map (fun d => d.parameters.length) = some 3 := by decide +kernel
abbrev rm_Model_within : Room := { frames := 0, cells := 0, slots := 0, locals := 0 }
theorem w_1198 : Cond.code y_Model_within b_Model_within 3 (some .int) ∈ TB := tb_in 1198 (by decide +kernel) (by decide +kernel)
theorem d_Model_within_0 : decode b_Model_within 0 = .ok (.iload_n 0, 1) := by decide +kernel
theorem d_Model_within_1 : decode b_Model_within 1 = .ok (.iload_n 1, 1) := by decide +kernel
theorem d_Model_within_2 : decode b_Model_within 2 = .ok (.if_icmp .ge 7, 3) := by decide +kernel
theorem d_Model_within_5 : decode b_Model_within 5 = .ok (.iload_n 1, 1) := by decide +kernel
theorem d_Model_within_6 : decode b_Model_within 6 = .ok (.goto 13, 3) := by decide +kernel
theorem d_Model_within_9 : decode b_Model_within 9 = .ok (.iload_n 0, 1) := by decide +kernel
theorem d_Model_within_10 : decode b_Model_within 10 = .ok (.iload_n 2, 1) := by decide +kernel
theorem d_Model_within_11 : decode b_Model_within 11 = .ok (.if_icmp .le 7, 3) := by decide +kernel
theorem d_Model_within_14 : decode b_Model_within 14 = .ok (.iload_n 2, 1) := by decide +kernel
theorem d_Model_within_15 : decode b_Model_within 15 = .ok (.goto 4, 3) := by decide +kernel
theorem d_Model_within_18 : decode b_Model_within 18 = .ok (.iload_n 0, 1) := by decide +kernel
theorem d_Model_within_19 : decode b_Model_within 19 = .ok (.ireturn, 1) := by decide +kernel
section S_Model_within
variable {p : Program} {l : Launch} {e : Env} {s : State} {m : MethodId} {args : Array Value} {below : List Frame} {meth : Method} {c : Code} {D : va_G} {cA : Nat → ClassId} {ad : Nat → Nat} {nC : Nat} {A : Nat → Prop} {r : Int32} {τ : St}
noncomputable def F_Model_within_0 (v0 : Int32) (v1 : Int32) (v2 : Int32) : Int32 := (if v1 ≤ v0 then (if v0 ≤ v2 then v0 else v2) else v1)
set_option maxHeartbeats 4000000 in
set_option maxRecDepth 100000 in
theorem q_Model_within_0 (s0 : St) (K : Fx p s m args meth c b_Model_within 3 R_Model (some .int))  : ∀ (H : Heap) (locs : List Loc) (ls : Array Slot) (v0 : Int32) (v1 : Int32) (v2 : Int32), Wh D cA ad shM A s s0 H locs → lv_has ls 3 [(0, .int v0), (1, .int v1), (2, .int v2)] → F_Model_within_0 v0 v1 v2 = r → W p l e rm_Model_within s m args below meth c H locs 0 0 (MQ below (QcI D cA ad shM A r s0) args s 0 0 A) (F0 m 0 ls []) := by
  have hx := K.1.1; have hb := K.1.2.1
  intro H locs ls v0 v1 v2 hw hl hF
  unfold F_Model_within_0 at hF
  refine lv_iload_n hx hb d_Model_within_0 rfl (lv_at hl 0 rfl) ?_
  refine lv_iload_n hx hb d_Model_within_1 rfl (lv_at hl 1 rfl) ?_
  refine lv_icmp_ge (tgt := 9) hx hb d_Model_within_2 (by decide) (fun c_1 => ?_) (fun c_1 => ?_)
  · replace hF := ifT hF c_1
    refine lv_iload_n hx hb d_Model_within_9 rfl (lv_at hl 0 rfl) ?_
    refine lv_iload_n hx hb d_Model_within_10 rfl (lv_at hl 2 rfl) ?_
    refine lv_icmp_le (tgt := 18) hx hb d_Model_within_11 (by decide) (fun c_2 => ?_) (fun c_2 => ?_)
    · replace hF := ifT hF c_2
      refine lv_iload_n hx hb d_Model_within_18 rfl (lv_at hl 0 rfl) ?_
      subst hF
      exact r_iret K hw d_Model_within_19
    · replace hF := ifF hF c_2
      refine lv_iload_n hx hb d_Model_within_14 rfl (lv_at hl 2 rfl) ?_
      refine lv_goto (tgt := 19) hx hb d_Model_within_15 (by decide) ?_
      subst hF
      exact r_iret K hw d_Model_within_19
  · replace hF := ifF hF c_1
    refine lv_iload_n hx hb d_Model_within_5 rfl (lv_at hl 1 rfl) ?_
    refine lv_goto (tgt := 19) hx hb d_Model_within_6 (by decide) ?_
    subst hF
    exact r_iret K hw d_Model_within_19
end S_Model_within
noncomputable abbrev F_Model_within := F_Model_within_0
theorem c_Model_within {l : Launch} {D : va_G} {cA : Nat → ClassId} {ad : Nat → Nat} {s0 : St} {r : Int32} {v0 : Int32} {v1 : Int32} {v2 : Int32}  (hF : F_Model_within v0 v1 v2 = r) : MI l D cA ad shM y_Model_within (wT y_Model_within b_Model_within 3 (some .int)) rm_Model_within [.int v0, .int v1, .int v2] s0 r s0 := fun sz => m_start (Qc := fun A => QcI D cA ad shM A r s0) (by decide +kernel) w_1198 (Nat.le_of_ble_eq_true rfl) (fun p e s m below meth c ls K hl hw => q_Model_within_0 s0 K _ _ _ _ _ _  hw hl hF)

/-! Model.isArm(I)Z -/
abbrev b_Model_isArm : ByteArray := prog_13_method_5_code
def y_Model_isArm : MethodName := ⟨R_Model, "isArm", "(I)Z"⟩
theorem a_Model_isArm : y_Model_isArm.cls = R_Model ∧ y_Model_isArm.cls ≠ "java/lang/invoke/MethodHandle" ∧ y_Model_isArm.cls ≠ "java/lang/invoke/VarHandle" ∧ (parseMethodDescriptor y_Model_isArm.desc).map (fun d => d.parameters.length) = some 1 := by decide +kernel
abbrev rm_Model_isArm : Room := { frames := 1, cells := 0, slots := 0, locals := 22 }
theorem w_1025 : Cond.fieldLink R_Model 75 R_Model "arms" "I" ∈ TB := tb_in 1025 (by decide +kernel) (by decide +kernel)
theorem w_986 : Cond.methodLink R_Model 78 y_Model_in ∈ TB := tb_in 986 (by decide +kernel) (by decide +kernel)
theorem w_987 : Cond.static y_Model_in ∈ TB := tb_in 987 (by decide +kernel) (by decide +kernel)
theorem w_80 : Cond.initialized R_Model ∈ TB := tb_in 80 (by decide +kernel) (by decide +kernel)
theorem w_1184 : Cond.code y_Model_isArm b_Model_isArm 2 (some .boolean) ∈ TB := tb_in 1184 (by decide +kernel) (by decide +kernel)
theorem d_Model_isArm_0 : decode b_Model_isArm 0 = .ok (.iload_n 1, 1) := by decide +kernel
theorem d_Model_isArm_1 : decode b_Model_isArm 1 = .ok (.iconst 0, 1) := by decide +kernel
theorem d_Model_isArm_2 : decode b_Model_isArm 2 = .ok (.aload_n 0, 1) := by decide +kernel
theorem d_Model_isArm_3 : decode b_Model_isArm 3 = .ok (.getfield 75, 3) := by decide +kernel
theorem d_Model_isArm_6 : decode b_Model_isArm 6 = .ok (.iconst 1, 1) := by decide +kernel
theorem d_Model_isArm_7 : decode b_Model_isArm 7 = .ok (.isub, 1) := by decide +kernel
theorem d_Model_isArm_8 : decode b_Model_isArm 8 = .ok (.invokestatic 78, 3) := by decide +kernel
theorem d_Model_isArm_11 : decode b_Model_isArm 11 = .ok (.ireturn, 1) := by decide +kernel
section S_Model_isArm
variable {p : Program} {l : Launch} {e : Env} {s : State} {m : MethodId} {args : Array Value} {below : List Frame} {meth : Method} {c : Code} {D : va_G} {cA : Nat → ClassId} {ad : Nat → Nat} {nC : Nat} {A : Nat → Prop} {r : Int32} {τ : St}
noncomputable def F_Model_isArm_0 (s0 : St) (v1 : Int32) : Option Int32 := (if ((F_Model_in v1 (0 : Int32) ((s0.1 0 0) - (1 : Int32))) = 0 ∨ (F_Model_in v1 (0 : Int32) ((s0.1 0 0) - (1 : Int32))) = 1) then (some (F_Model_in v1 (0 : Int32) ((s0.1 0 0) - (1 : Int32)))) else none)
set_option maxHeartbeats 4000000 in
set_option maxRecDepth 100000 in
theorem q_Model_isArm_0 (s0 : St) (K : Fx p s m args meth c b_Model_isArm 2 R_Model (some .boolean))  : ∀ (H : Heap) (locs : List Loc) (ls : Array Slot) (v1 : Int32), Wh D cA ad shM A s s0 H locs → lv_has ls 2 [(0, .ref (ad 0)), (1, .int v1)] → F_Model_isArm_0 s0 v1 = (some r) → W p l e rm_Model_isArm s m args below meth c H locs 0 0 (MQ below (QcI D cA ad shM A r s0) args s 0 0 A) (F0 m 0 ls []) := by
  have hx := K.1.1; have hb := K.1.2.1
  intro H locs ls v1 hw hl hF
  unfold F_Model_isArm_0 at hF
  refine lv_iload_n hx hb d_Model_isArm_0 rfl (lv_at hl 1 rfl) ?_
  refine lv_iconst (v := 0) hx hb d_Model_isArm_1 (by decide) ?_
  refine lv_aload_n hx hb d_Model_isArm_2 rfl (lv_at hl 0 rfl) ?_
  refine r_get (v := .int (s0.1 0 0)) K hw i_Model sh_Model rfl 0 (by decide) w_1025 rfl rfl rfl d_Model_isArm_3 ?_
  refine lv_iconst (v := 1) hx hb d_Model_isArm_6 (by decide) ?_
  refine lv_isub hx hb d_Model_isArm_7 ?_
  refine r_callSI (As := [.int v1, .int (0 : Int32), .int ((s0.1 0 0) - (1 : Int32))]) (rest := []) K hw hl.1 (c_Model_in (l := l) (D := D) (cA := cA) (ad := ad) (s0 := s0)   rfl) (tb_gS w_986 w_987 w_80 w_988) a_Model_in ⟨rfl, rfl, Nat.le_of_ble_eq_true rfl, Nat.le_of_ble_eq_true rfl⟩ rfl rfl (Nat.le_of_ble_eq_true rfl) d_Model_isArm_8 (fun H locs hw => ?_)
  obtain ⟨g_1, hF⟩ := ifG hF
  replace hF := sE1 hF
  subst hF
  exact r_zret K hw (zN g_1) d_Model_isArm_11
end S_Model_isArm
noncomputable abbrev F_Model_isArm := F_Model_isArm_0
theorem c_Model_isArm {l : Launch} {D : va_G} {cA : Nat → ClassId} {ad : Nat → Nat} {s0 : St} {r : Int32} {v1 : Int32}  (hF : F_Model_isArm s0 v1 = (some r)) : MI l D cA ad shM y_Model_isArm (wT y_Model_isArm b_Model_isArm 2 (some .boolean)) rm_Model_isArm [.ref (ad 0), .int v1] s0 r s0 := fun sz => m_start (Qc := fun A => QcI D cA ad shM A r s0) (by decide +kernel) w_1184 (Nat.le_of_ble_eq_true rfl) (fun p e s m below meth c ls K hl hw => q_Model_isArm_0 s0 K _ _ _ _  hw hl hF)

/-! Model.areTwo(II)Z -/
abbrev b_Model_areTwo : ByteArray := prog_13_method_6_code
def y_Model_areTwo : MethodName := ⟨R_Model, "areTwo", "(II)Z"⟩
theorem a_Model_areTwo : y_Model_areTwo.cls = R_Model ∧ y_Model_areTwo.cls ≠ "java/lang/invoke/MethodHandle" ∧ y_Model_areTwo.cls ≠ "java/lang/invoke/VarHandle" ∧ (parseMethodDescriptor y_Model_areTwo.desc).map (fun d => d.parameters.length) = some 2 := by decide +kernel
abbrev rm_Model_areTwo : Room := { frames := 2, cells := 0, slots := 0, locals := 43 }
theorem w_1181 : Cond.methodLink R_Model 82 y_Model_isArm ∈ TB := tb_in 1181 (by decide +kernel) (by decide +kernel)
theorem w_1183 : Cond.instanceMethod y_Model_isArm ∈ TB := tb_in 1183 (by decide +kernel) (by decide +kernel)
theorem w_39 : Cond.selects R_Model y_Model_isArm y_Model_isArm ∈ TB := tb_in 39 (by decide +kernel) (by decide +kernel)
theorem w_1229 : Cond.code y_Model_areTwo b_Model_areTwo 3 (some .boolean) ∈ TB := tb_in 1229 (by decide +kernel) (by decide +kernel)
theorem d_Model_areTwo_0 : decode b_Model_areTwo 0 = .ok (.aload_n 0, 1) := by decide +kernel
theorem d_Model_areTwo_1 : decode b_Model_areTwo 1 = .ok (.iload_n 1, 1) := by decide +kernel
theorem d_Model_areTwo_2 : decode b_Model_areTwo 2 = .ok (.invokevirtual 82, 3) := by decide +kernel
theorem d_Model_areTwo_5 : decode b_Model_areTwo 5 = .ok (.ifCond .eq 20, 3) := by decide +kernel
theorem d_Model_areTwo_8 : decode b_Model_areTwo 8 = .ok (.aload_n 0, 1) := by decide +kernel
theorem d_Model_areTwo_9 : decode b_Model_areTwo 9 = .ok (.iload_n 2, 1) := by decide +kernel
theorem d_Model_areTwo_10 : decode b_Model_areTwo 10 = .ok (.invokevirtual 82, 3) := by decide +kernel
theorem d_Model_areTwo_13 : decode b_Model_areTwo 13 = .ok (.ifCond .eq 12, 3) := by decide +kernel
theorem d_Model_areTwo_16 : decode b_Model_areTwo 16 = .ok (.iload_n 1, 1) := by decide +kernel
theorem d_Model_areTwo_17 : decode b_Model_areTwo 17 = .ok (.iload_n 2, 1) := by decide +kernel
theorem d_Model_areTwo_18 : decode b_Model_areTwo 18 = .ok (.if_icmp .eq 7, 3) := by decide +kernel
theorem d_Model_areTwo_21 : decode b_Model_areTwo 21 = .ok (.iconst 1, 1) := by decide +kernel
theorem d_Model_areTwo_22 : decode b_Model_areTwo 22 = .ok (.goto 4, 3) := by decide +kernel
theorem d_Model_areTwo_25 : decode b_Model_areTwo 25 = .ok (.iconst 0, 1) := by decide +kernel
theorem d_Model_areTwo_26 : decode b_Model_areTwo 26 = .ok (.ireturn, 1) := by decide +kernel
section S_Model_areTwo
variable {p : Program} {l : Launch} {e : Env} {s : State} {m : MethodId} {args : Array Value} {below : List Frame} {meth : Method} {c : Code} {D : va_G} {cA : Nat → ClassId} {ad : Nat → Nat} {nC : Nat} {A : Nat → Prop} {r : Int32} {τ : St}
noncomputable def F_Model_areTwo_0 (s0 : St) (v1 : Int32) (v2 : Int32) : Option Int32 := (ob1 (F_Model_isArm s0 v1) (fun r_1 => (if r_1 = 0 then (some (0 : Int32)) else (ob1 (F_Model_isArm s0 v2) (fun r_3 => (if r_3 = 0 then (some (0 : Int32)) else (if v1 = v2 then (some (0 : Int32)) else (some (1 : Int32)))))))))
set_option maxHeartbeats 4000000 in
set_option maxRecDepth 100000 in
theorem q_Model_areTwo_0 (s0 : St) (K : Fx p s m args meth c b_Model_areTwo 3 R_Model (some .boolean))  : ∀ (H : Heap) (locs : List Loc) (ls : Array Slot) (v1 : Int32) (v2 : Int32), Wh D cA ad shM A s s0 H locs → lv_has ls 3 [(0, .ref (ad 0)), (1, .int v1), (2, .int v2)] → F_Model_areTwo_0 s0 v1 v2 = (some r) → W p l e rm_Model_areTwo s m args below meth c H locs 0 0 (MQ below (QcI D cA ad shM A r s0) args s 0 0 A) (F0 m 0 ls []) := by
  have hx := K.1.1; have hb := K.1.2.1
  intro H locs ls v1 v2 hw hl hF
  unfold F_Model_areTwo_0 at hF
  refine lv_aload_n hx hb d_Model_areTwo_0 rfl (lv_at hl 0 rfl) ?_
  refine lv_iload_n hx hb d_Model_areTwo_1 rfl (lv_at hl 1 rfl) ?_
  obtain ⟨r_1, h_r_1, hF⟩ := ob1E hF
  refine r_callVI (As := [.int v1]) (rest := []) K hw hl.1 (c_Model_isArm (l := l) (D := D) (cA := cA) (ad := ad) (s0 := s0)   h_r_1) sh_Model rfl (tb_gV w_1181 w_1183 w_39 w_80 w_1184) a_Model_isArm ⟨rfl, rfl, Nat.le_of_ble_eq_true rfl, Nat.le_of_ble_eq_true rfl⟩ rfl rfl (Nat.le_of_ble_eq_true rfl) d_Model_areTwo_2 (fun H locs hw => ?_)
  refine lv_if_eq (tgt := 25) hx hb d_Model_areTwo_5 (by decide) (fun c_2 => ?_) (fun c_2 => ?_)
  · replace hF := ifT hF c_2
    refine lv_iconst (v := 0) hx hb d_Model_areTwo_25 (by decide) ?_
    replace hF := sE1 hF
    subst hF
    exact r_zret K hw (by decide) d_Model_areTwo_26
  · replace hF := ifF hF c_2
    refine lv_aload_n hx hb d_Model_areTwo_8 rfl (lv_at hl 0 rfl) ?_
    refine lv_iload_n hx hb d_Model_areTwo_9 rfl (lv_at hl 2 rfl) ?_
    obtain ⟨r_3, h_r_3, hF⟩ := ob1E hF
    refine r_callVI (As := [.int v2]) (rest := []) K hw hl.1 (c_Model_isArm (l := l) (D := D) (cA := cA) (ad := ad) (s0 := s0)   h_r_3) sh_Model rfl (tb_gV w_1181 w_1183 w_39 w_80 w_1184) a_Model_isArm ⟨rfl, rfl, Nat.le_of_ble_eq_true rfl, Nat.le_of_ble_eq_true rfl⟩ rfl rfl (Nat.le_of_ble_eq_true rfl) d_Model_areTwo_10 (fun H locs hw => ?_)
    refine lv_if_eq (tgt := 25) hx hb d_Model_areTwo_13 (by decide) (fun c_4 => ?_) (fun c_4 => ?_)
    · replace hF := ifT hF c_4
      refine lv_iconst (v := 0) hx hb d_Model_areTwo_25 (by decide) ?_
      replace hF := sE1 hF
      subst hF
      exact r_zret K hw (by decide) d_Model_areTwo_26
    · replace hF := ifF hF c_4
      refine lv_iload_n hx hb d_Model_areTwo_16 rfl (lv_at hl 1 rfl) ?_
      refine lv_iload_n hx hb d_Model_areTwo_17 rfl (lv_at hl 2 rfl) ?_
      refine lv_icmp_eq (tgt := 25) hx hb d_Model_areTwo_18 (by decide) (fun c_5 => ?_) (fun c_5 => ?_)
      · replace hF := ifT hF c_5
        refine lv_iconst (v := 0) hx hb d_Model_areTwo_25 (by decide) ?_
        replace hF := sE1 hF
        subst hF
        exact r_zret K hw (by decide) d_Model_areTwo_26
      · replace hF := ifF hF c_5
        refine lv_iconst (v := 1) hx hb d_Model_areTwo_21 (by decide) ?_
        refine lv_goto (tgt := 26) hx hb d_Model_areTwo_22 (by decide) ?_
        replace hF := sE1 hF
        subst hF
        exact r_zret K hw (by decide) d_Model_areTwo_26
end S_Model_areTwo
noncomputable abbrev F_Model_areTwo := F_Model_areTwo_0
theorem c_Model_areTwo {l : Launch} {D : va_G} {cA : Nat → ClassId} {ad : Nat → Nat} {s0 : St} {r : Int32} {v1 : Int32} {v2 : Int32}  (hF : F_Model_areTwo s0 v1 v2 = (some r)) : MI l D cA ad shM y_Model_areTwo (wT y_Model_areTwo b_Model_areTwo 3 (some .boolean)) rm_Model_areTwo [.ref (ad 0), .int v1, .int v2] s0 r s0 := fun sz => m_start (Qc := fun A => QcI D cA ad shM A r s0) (by decide +kernel) w_1229 (Nat.le_of_ble_eq_true rfl) (fun p e s m below meth c ls K hl hw => q_Model_areTwo_0 s0 K _ _ _ _ _  hw hl hF)

/-! Model.tellTwo(I)Z -/
abbrev b_Model_tellTwo : ByteArray := prog_13_method_7_code
def y_Model_tellTwo : MethodName := ⟨R_Model, "tellTwo", "(I)Z"⟩
theorem a_Model_tellTwo : y_Model_tellTwo.cls = R_Model ∧ y_Model_tellTwo.cls ≠ "java/lang/invoke/MethodHandle" ∧ y_Model_tellTwo.cls ≠ "java/lang/invoke/VarHandle" ∧ (parseMethodDescriptor y_Model_tellTwo.desc).map (fun d => d.parameters.length) = some 1 := by decide +kernel
abbrev rm_Model_tellTwo : Room := { frames := 3, cells := 0, slots := 0, locals := 65 }
theorem w_1226 : Cond.methodLink R_Model 86 y_Model_areTwo ∈ TB := tb_in 1226 (by decide +kernel) (by decide +kernel)
theorem w_1228 : Cond.instanceMethod y_Model_areTwo ∈ TB := tb_in 1228 (by decide +kernel) (by decide +kernel)
theorem w_44 : Cond.selects R_Model y_Model_areTwo y_Model_areTwo ∈ TB := tb_in 44 (by decide +kernel) (by decide +kernel)
theorem w_1225 : Cond.code y_Model_tellTwo b_Model_tellTwo 2 (some .boolean) ∈ TB := tb_in 1225 (by decide +kernel) (by decide +kernel)
theorem d_Model_tellTwo_0 : decode b_Model_tellTwo 0 = .ok (.iload_n 1, 1) := by decide +kernel
theorem d_Model_tellTwo_1 : decode b_Model_tellTwo 1 = .ok (.ifCond .lt 22, 3) := by decide +kernel
theorem d_Model_tellTwo_4 : decode b_Model_tellTwo 4 = .ok (.aload_n 0, 1) := by decide +kernel
theorem d_Model_tellTwo_5 : decode b_Model_tellTwo 5 = .ok (.iload_n 1, 1) := by decide +kernel
theorem d_Model_tellTwo_6 : decode b_Model_tellTwo 6 = .ok (.bipush 10, 2) := by decide +kernel
theorem d_Model_tellTwo_8 : decode b_Model_tellTwo 8 = .ok (.idiv, 1) := by decide +kernel
theorem d_Model_tellTwo_9 : decode b_Model_tellTwo 9 = .ok (.iload_n 1, 1) := by decide +kernel
theorem d_Model_tellTwo_10 : decode b_Model_tellTwo 10 = .ok (.bipush 10, 2) := by decide +kernel
theorem d_Model_tellTwo_12 : decode b_Model_tellTwo 12 = .ok (.irem, 1) := by decide +kernel
theorem d_Model_tellTwo_13 : decode b_Model_tellTwo 13 = .ok (.invokevirtual 86, 3) := by decide +kernel
theorem d_Model_tellTwo_16 : decode b_Model_tellTwo 16 = .ok (.ifCond .eq 7, 3) := by decide +kernel
theorem d_Model_tellTwo_19 : decode b_Model_tellTwo 19 = .ok (.iconst 1, 1) := by decide +kernel
theorem d_Model_tellTwo_20 : decode b_Model_tellTwo 20 = .ok (.goto 4, 3) := by decide +kernel
theorem d_Model_tellTwo_23 : decode b_Model_tellTwo 23 = .ok (.iconst 0, 1) := by decide +kernel
theorem d_Model_tellTwo_24 : decode b_Model_tellTwo 24 = .ok (.ireturn, 1) := by decide +kernel
section S_Model_tellTwo
variable {p : Program} {l : Launch} {e : Env} {s : State} {m : MethodId} {args : Array Value} {below : List Frame} {meth : Method} {c : Code} {D : va_G} {cA : Nat → ClassId} {ad : Nat → Nat} {nC : Nat} {A : Nat → Prop} {r : Int32} {τ : St}
noncomputable def F_Model_tellTwo_0 (s0 : St) (v1 : Int32) : Option Int32 := (if v1 < 0 then (some (0 : Int32)) else (ob1 (F_Model_areTwo s0 (v1 / (10 : Int32)) (jrem v1 (10 : Int32))) (fun r_2 => (if r_2 = 0 then (some (0 : Int32)) else (some (1 : Int32))))))
set_option maxHeartbeats 4000000 in
set_option maxRecDepth 100000 in
theorem q_Model_tellTwo_0 (s0 : St) (K : Fx p s m args meth c b_Model_tellTwo 2 R_Model (some .boolean))  : ∀ (H : Heap) (locs : List Loc) (ls : Array Slot) (v1 : Int32), Wh D cA ad shM A s s0 H locs → lv_has ls 2 [(0, .ref (ad 0)), (1, .int v1)] → F_Model_tellTwo_0 s0 v1 = (some r) → W p l e rm_Model_tellTwo s m args below meth c H locs 0 0 (MQ below (QcI D cA ad shM A r s0) args s 0 0 A) (F0 m 0 ls []) := by
  have hx := K.1.1; have hb := K.1.2.1
  intro H locs ls v1 hw hl hF
  unfold F_Model_tellTwo_0 at hF
  refine lv_iload_n hx hb d_Model_tellTwo_0 rfl (lv_at hl 1 rfl) ?_
  refine lv_if_lt (tgt := 23) hx hb d_Model_tellTwo_1 (by decide) (fun c_1 => ?_) (fun c_1 => ?_)
  · replace hF := ifT hF c_1
    refine lv_iconst (v := 0) hx hb d_Model_tellTwo_23 (by decide) ?_
    replace hF := sE1 hF
    subst hF
    exact r_zret K hw (by decide) d_Model_tellTwo_24
  · replace hF := ifF hF c_1
    refine lv_aload_n hx hb d_Model_tellTwo_4 rfl (lv_at hl 0 rfl) ?_
    refine lv_iload_n hx hb d_Model_tellTwo_5 rfl (lv_at hl 1 rfl) ?_
    refine lv_bipush (v := 10) hx hb d_Model_tellTwo_6 (by decide) ?_
    refine lv_idiv hx hb d_Model_tellTwo_8 (by decide) ?_
    refine lv_iload_n hx hb d_Model_tellTwo_9 rfl (lv_at hl 1 rfl) ?_
    refine lv_bipush (v := 10) hx hb d_Model_tellTwo_10 (by decide) ?_
    refine lv_irem hx hb d_Model_tellTwo_12 (by decide) ?_
    obtain ⟨r_2, h_r_2, hF⟩ := ob1E hF
    refine r_callVI (As := [.int (v1 / (10 : Int32)), .int (jrem v1 (10 : Int32))]) (rest := []) K hw hl.1 (c_Model_areTwo (l := l) (D := D) (cA := cA) (ad := ad) (s0 := s0)   h_r_2) sh_Model rfl (tb_gV w_1226 w_1228 w_44 w_80 w_1229) a_Model_areTwo ⟨rfl, rfl, Nat.le_of_ble_eq_true rfl, Nat.le_of_ble_eq_true rfl⟩ rfl rfl (Nat.le_of_ble_eq_true rfl) d_Model_tellTwo_13 (fun H locs hw => ?_)
    refine lv_if_eq (tgt := 23) hx hb d_Model_tellTwo_16 (by decide) (fun c_3 => ?_) (fun c_3 => ?_)
    · replace hF := ifT hF c_3
      refine lv_iconst (v := 0) hx hb d_Model_tellTwo_23 (by decide) ?_
      replace hF := sE1 hF
      subst hF
      exact r_zret K hw (by decide) d_Model_tellTwo_24
    · replace hF := ifF hF c_3
      refine lv_iconst (v := 1) hx hb d_Model_tellTwo_19 (by decide) ?_
      refine lv_goto (tgt := 24) hx hb d_Model_tellTwo_20 (by decide) ?_
      replace hF := sE1 hF
      subst hF
      exact r_zret K hw (by decide) d_Model_tellTwo_24
end S_Model_tellTwo
noncomputable abbrev F_Model_tellTwo := F_Model_tellTwo_0
theorem c_Model_tellTwo {l : Launch} {D : va_G} {cA : Nat → ClassId} {ad : Nat → Nat} {s0 : St} {r : Int32} {v1 : Int32}  (hF : F_Model_tellTwo s0 v1 = (some r)) : MI l D cA ad shM y_Model_tellTwo (wT y_Model_tellTwo b_Model_tellTwo 2 (some .boolean)) rm_Model_tellTwo [.ref (ad 0), .int v1] s0 r s0 := fun sz => m_start (Qc := fun A => QcI D cA ad shM A r s0) (by decide +kernel) w_1225 (Nat.le_of_ble_eq_true rfl) (fun p e s m below meth c ls K hl hw => q_Model_tellTwo_0 s0 K _ _ _ _  hw hl hF)

/-! Model.count(I)I -/
abbrev b_Model_count : ByteArray := prog_13_method_8_code
def y_Model_count : MethodName := ⟨R_Model, "count", "(I)I"⟩
theorem a_Model_count : y_Model_count.cls = R_Model ∧ y_Model_count.cls ≠ "java/lang/invoke/MethodHandle" ∧ y_Model_count.cls ≠ "java/lang/invoke/VarHandle" ∧ (parseMethodDescriptor y_Model_count.desc).map (fun d => d.parameters.length) = some 1 := by decide +kernel
abbrev rm_Model_count : Room := { frames := 0, cells := 0, slots := 0, locals := 0 }
theorem w_1035 : Cond.fieldLink R_Model 90 R_Model "texts" "I" ∈ TB := tb_in 1035 (by decide +kernel) (by decide +kernel)
theorem w_1036 : Cond.fieldLink R_Model 93 R_Model "rule" "I" ∈ TB := tb_in 1036 (by decide +kernel) (by decide +kernel)
theorem w_1032 : Cond.fieldLink R_Model 67 R_Model "taped" "I" ∈ TB := tb_in 1032 (by decide +kernel) (by decide +kernel)
theorem w_1164 : Cond.code y_Model_count b_Model_count 2 (some .int) ∈ TB := tb_in 1164 (by decide +kernel) (by decide +kernel)
theorem d_Model_count_0 : decode b_Model_count 0 = .ok (.iload_n 1, 1) := by decide +kernel
theorem d_Model_count_1 : decode b_Model_count 1 = .ok (.tableswitch 51 0 3 #[31, 36, 41, 46], 31) := by decide +kernel
theorem d_Model_count_32 : decode b_Model_count 32 = .ok (.aload_n 0, 1) := by decide +kernel
theorem d_Model_count_33 : decode b_Model_count 33 = .ok (.getfield 75, 3) := by decide +kernel
theorem d_Model_count_36 : decode b_Model_count 36 = .ok (.ireturn, 1) := by decide +kernel
theorem d_Model_count_37 : decode b_Model_count 37 = .ok (.aload_n 0, 1) := by decide +kernel
theorem d_Model_count_38 : decode b_Model_count 38 = .ok (.getfield 90, 3) := by decide +kernel
theorem d_Model_count_41 : decode b_Model_count 41 = .ok (.ireturn, 1) := by decide +kernel
theorem d_Model_count_42 : decode b_Model_count 42 = .ok (.aload_n 0, 1) := by decide +kernel
theorem d_Model_count_43 : decode b_Model_count 43 = .ok (.getfield 93, 3) := by decide +kernel
theorem d_Model_count_46 : decode b_Model_count 46 = .ok (.ireturn, 1) := by decide +kernel
theorem d_Model_count_47 : decode b_Model_count 47 = .ok (.aload_n 0, 1) := by decide +kernel
theorem d_Model_count_48 : decode b_Model_count 48 = .ok (.getfield 67, 3) := by decide +kernel
theorem d_Model_count_51 : decode b_Model_count 51 = .ok (.ireturn, 1) := by decide +kernel
theorem d_Model_count_52 : decode b_Model_count 52 = .ok (.bipush (-2), 2) := by decide +kernel
theorem d_Model_count_54 : decode b_Model_count 54 = .ok (.ireturn, 1) := by decide +kernel
section S_Model_count
variable {p : Program} {l : Launch} {e : Env} {s : State} {m : MethodId} {args : Array Value} {below : List Frame} {meth : Method} {c : Code} {D : va_G} {cA : Nat → ClassId} {ad : Nat → Nat} {nC : Nat} {A : Nat → Prop} {r : Int32} {τ : St}
noncomputable def F_Model_count_0 (s0 : St) (v1 : Int32) : Int32 := (if v1 = 0 then (s0.1 0 0) else (if v1 = 1 then (s0.1 0 10) else (if v1 = 2 then (s0.1 0 11) else (if v1 = 3 then (s0.1 0 7) else (-2 : Int32)))))
set_option maxHeartbeats 4000000 in
set_option maxRecDepth 100000 in
theorem q_Model_count_0 (s0 : St) (K : Fx p s m args meth c b_Model_count 2 R_Model (some .int))  : ∀ (H : Heap) (locs : List Loc) (ls : Array Slot) (v1 : Int32), Wh D cA ad shM A s s0 H locs → lv_has ls 2 [(0, .ref (ad 0)), (1, .int v1)] → F_Model_count_0 s0 v1 = r → W p l e rm_Model_count s m args below meth c H locs 0 0 (MQ below (QcI D cA ad shM A r s0) args s 0 0 A) (F0 m 0 ls []) := by
  have hx := K.1.1; have hb := K.1.2.1
  intro H locs ls v1 hw hl hF
  unfold F_Model_count_0 at hF
  refine lv_iload_n hx hb d_Model_count_0 rfl (lv_at hl 1 rfl) ?_
  by_cases c_1 : v1 = 0
  · replace hF := ifT hF c_1
    refine lv_tableIn (tgt := 32) hx hb d_Model_count_1 (by rw [c_1]; decide) (by rw [c_1]; decide) (by rw [c_1]; rfl) (by decide) ?_
    refine lv_aload_n hx hb d_Model_count_32 rfl (lv_at hl 0 rfl) ?_
    refine r_get (v := .int (s0.1 0 0)) K hw i_Model sh_Model rfl 0 (by decide) w_1025 rfl rfl rfl d_Model_count_33 ?_
    subst hF
    exact r_iret K hw d_Model_count_36
  replace hF := ifF hF c_1
  by_cases c_2 : v1 = 1
  · replace hF := ifT hF c_2
    refine lv_tableIn (tgt := 37) hx hb d_Model_count_1 (by rw [c_2]; decide) (by rw [c_2]; decide) (by rw [c_2]; rfl) (by decide) ?_
    refine lv_aload_n hx hb d_Model_count_37 rfl (lv_at hl 0 rfl) ?_
    refine r_get (v := .int (s0.1 0 10)) K hw i_Model sh_Model rfl 10 (by decide) w_1035 rfl rfl rfl d_Model_count_38 ?_
    subst hF
    exact r_iret K hw d_Model_count_41
  replace hF := ifF hF c_2
  by_cases c_3 : v1 = 2
  · replace hF := ifT hF c_3
    refine lv_tableIn (tgt := 42) hx hb d_Model_count_1 (by rw [c_3]; decide) (by rw [c_3]; decide) (by rw [c_3]; rfl) (by decide) ?_
    refine lv_aload_n hx hb d_Model_count_42 rfl (lv_at hl 0 rfl) ?_
    refine r_get (v := .int (s0.1 0 11)) K hw i_Model sh_Model rfl 11 (by decide) w_1036 rfl rfl rfl d_Model_count_43 ?_
    subst hF
    exact r_iret K hw d_Model_count_46
  replace hF := ifF hF c_3
  by_cases c_4 : v1 = 3
  · replace hF := ifT hF c_4
    refine lv_tableIn (tgt := 47) hx hb d_Model_count_1 (by rw [c_4]; decide) (by rw [c_4]; decide) (by rw [c_4]; rfl) (by decide) ?_
    refine lv_aload_n hx hb d_Model_count_47 rfl (lv_at hl 0 rfl) ?_
    refine r_get (v := .int (s0.1 0 7)) K hw i_Model sh_Model rfl 7 (by decide) w_1032 rfl rfl rfl d_Model_count_48 ?_
    subst hF
    exact r_iret K hw d_Model_count_51
  replace hF := ifF hF c_4
  have nc_1 : ¬ (v1).toInt = 0 := lv_neT c_1 rfl
  have nc_2 : ¬ (v1).toInt = 1 := lv_neT c_2 rfl
  have nc_3 : ¬ (v1).toInt = 2 := lv_neT c_3 rfl
  have nc_4 : ¬ (v1).toInt = 3 := lv_neT c_4 rfl
  refine lv_tableOut (tgt := 52) hx hb d_Model_count_1 (by omega) (by decide) ?_
  refine lv_bipush (v := -2) hx hb d_Model_count_52 (by decide) ?_
  subst hF
  exact r_iret K hw d_Model_count_54
end S_Model_count
noncomputable abbrev F_Model_count := F_Model_count_0
theorem c_Model_count {l : Launch} {D : va_G} {cA : Nat → ClassId} {ad : Nat → Nat} {s0 : St} {r : Int32} {v1 : Int32}  (hF : F_Model_count s0 v1 = r) : MI l D cA ad shM y_Model_count (wT y_Model_count b_Model_count 2 (some .int)) rm_Model_count [.ref (ad 0), .int v1] s0 r s0 := fun sz => m_start (Qc := fun A => QcI D cA ad shM A r s0) (by decide +kernel) w_1164 (Nat.le_of_ble_eq_true rfl) (fun p e s m below meth c ls K hl hw => q_Model_count_0 s0 K _ _ _ _  hw hl hF)

/-! Model.isByte(I)Z -/
abbrev b_Model_isByte : ByteArray := prog_13_method_9_code
def y_Model_isByte : MethodName := ⟨R_Model, "isByte", "(I)Z"⟩
theorem a_Model_isByte : y_Model_isByte.cls = R_Model ∧ y_Model_isByte.cls ≠ "java/lang/invoke/MethodHandle" ∧ y_Model_isByte.cls ≠ "java/lang/invoke/VarHandle" ∧ (parseMethodDescriptor y_Model_isByte.desc).map (fun d => d.parameters.length) = some 1 := by decide +kernel
abbrev rm_Model_isByte : Room := { frames := 1, cells := 0, slots := 0, locals := 22 }
theorem w_1171 : Cond.code y_Model_isByte b_Model_isByte 1 (some .boolean) ∈ TB := tb_in 1171 (by decide +kernel) (by decide +kernel)
theorem d_Model_isByte_0 : decode b_Model_isByte 0 = .ok (.iload_n 0, 1) := by decide +kernel
theorem d_Model_isByte_1 : decode b_Model_isByte 1 = .ok (.iconst 0, 1) := by decide +kernel
theorem d_Model_isByte_2 : decode b_Model_isByte 2 = .ok (.sipush 255, 3) := by decide +kernel
theorem d_Model_isByte_5 : decode b_Model_isByte 5 = .ok (.invokestatic 78, 3) := by decide +kernel
theorem d_Model_isByte_8 : decode b_Model_isByte 8 = .ok (.ireturn, 1) := by decide +kernel
section S_Model_isByte
variable {p : Program} {l : Launch} {e : Env} {s : State} {m : MethodId} {args : Array Value} {below : List Frame} {meth : Method} {c : Code} {D : va_G} {cA : Nat → ClassId} {ad : Nat → Nat} {nC : Nat} {A : Nat → Prop} {r : Int32} {τ : St}
noncomputable def F_Model_isByte_0 (v0 : Int32) : Option Int32 := (if ((F_Model_in v0 (0 : Int32) (255 : Int32)) = 0 ∨ (F_Model_in v0 (0 : Int32) (255 : Int32)) = 1) then (some (F_Model_in v0 (0 : Int32) (255 : Int32))) else none)
set_option maxHeartbeats 4000000 in
set_option maxRecDepth 100000 in
theorem q_Model_isByte_0 (s0 : St) (K : Fx p s m args meth c b_Model_isByte 1 R_Model (some .boolean))  : ∀ (H : Heap) (locs : List Loc) (ls : Array Slot) (v0 : Int32), Wh D cA ad shM A s s0 H locs → lv_has ls 1 [(0, .int v0)] → F_Model_isByte_0 v0 = (some r) → W p l e rm_Model_isByte s m args below meth c H locs 0 0 (MQ below (QcI D cA ad shM A r s0) args s 0 0 A) (F0 m 0 ls []) := by
  have hx := K.1.1; have hb := K.1.2.1
  intro H locs ls v0 hw hl hF
  unfold F_Model_isByte_0 at hF
  refine lv_iload_n hx hb d_Model_isByte_0 rfl (lv_at hl 0 rfl) ?_
  refine lv_iconst (v := 0) hx hb d_Model_isByte_1 (by decide) ?_
  refine lv_sipush (v := 255) hx hb d_Model_isByte_2 (by decide) ?_
  refine r_callSI (As := [.int v0, .int (0 : Int32), .int (255 : Int32)]) (rest := []) K hw hl.1 (c_Model_in (l := l) (D := D) (cA := cA) (ad := ad) (s0 := s0)   rfl) (tb_gS w_986 w_987 w_80 w_988) a_Model_in ⟨rfl, rfl, Nat.le_of_ble_eq_true rfl, Nat.le_of_ble_eq_true rfl⟩ rfl rfl (Nat.le_of_ble_eq_true rfl) d_Model_isByte_5 (fun H locs hw => ?_)
  obtain ⟨g_1, hF⟩ := ifG hF
  replace hF := sE1 hF
  subst hF
  exact r_zret K hw (zN g_1) d_Model_isByte_8
end S_Model_isByte
noncomputable abbrev F_Model_isByte := F_Model_isByte_0
theorem c_Model_isByte {l : Launch} {D : va_G} {cA : Nat → ClassId} {ad : Nat → Nat} {s0 : St} {r : Int32} {v0 : Int32}  (hF : F_Model_isByte v0 = (some r)) : MI l D cA ad shM y_Model_isByte (wT y_Model_isByte b_Model_isByte 1 (some .boolean)) rm_Model_isByte [.int v0] s0 r s0 := fun sz => m_start (Qc := fun A => QcI D cA ad shM A r s0) (by decide +kernel) w_1171 (Nat.le_of_ble_eq_true rfl) (fun p e s m below meth c ls K hl hw => q_Model_isByte_0 s0 K _ _ _ _  hw hl hF)

/-! Model.feed(IIIIII)I -/
abbrev b_Model_feed : ByteArray := prog_13_method_10_code
def y_Model_feed : MethodName := ⟨R_Model, "feed", "(IIIIII)I"⟩
theorem a_Model_feed : y_Model_feed.cls = R_Model ∧ y_Model_feed.cls ≠ "java/lang/invoke/MethodHandle" ∧ y_Model_feed.cls ≠ "java/lang/invoke/VarHandle" ∧ (parseMethodDescriptor y_Model_feed.desc).map (fun d => d.parameters.length) = some 6 := by decide +kernel
abbrev rm_Model_feed : Room := { frames := 2, cells := 0, slots := 0, locals := 42 }
theorem w_1169 : Cond.methodLink R_Model 96 y_Model_isByte ∈ TB := tb_in 1169 (by decide +kernel) (by decide +kernel)
theorem w_1170 : Cond.static y_Model_isByte ∈ TB := tb_in 1170 (by decide +kernel) (by decide +kernel)
theorem w_1031 : Cond.fieldLink R_Model 25 R_Model "tape" "[I" ∈ TB := tb_in 1031 (by decide +kernel) (by decide +kernel)
theorem w_1168 : Cond.code y_Model_feed b_Model_feed 8 (some .int) ∈ TB := tb_in 1168 (by decide +kernel) (by decide +kernel)
theorem d_Model_feed_0 : decode b_Model_feed 0 = .ok (.iload_n 1, 1) := by decide +kernel
theorem d_Model_feed_1 : decode b_Model_feed 1 = .ok (.iconst 1, 1) := by decide +kernel
theorem d_Model_feed_2 : decode b_Model_feed 2 = .ok (.iconst 5, 1) := by decide +kernel
theorem d_Model_feed_3 : decode b_Model_feed 3 = .ok (.invokestatic 78, 3) := by decide +kernel
theorem d_Model_feed_6 : decode b_Model_feed 6 = .ok (.ifCond .eq 41, 3) := by decide +kernel
theorem d_Model_feed_9 : decode b_Model_feed 9 = .ok (.iload_n 2, 1) := by decide +kernel
theorem d_Model_feed_10 : decode b_Model_feed 10 = .ok (.invokestatic 96, 3) := by decide +kernel
theorem d_Model_feed_13 : decode b_Model_feed 13 = .ok (.ifCond .eq 34, 3) := by decide +kernel
theorem d_Model_feed_16 : decode b_Model_feed 16 = .ok (.iload_n 3, 1) := by decide +kernel
theorem d_Model_feed_17 : decode b_Model_feed 17 = .ok (.invokestatic 96, 3) := by decide +kernel
theorem d_Model_feed_20 : decode b_Model_feed 20 = .ok (.ifCond .eq 27, 3) := by decide +kernel
theorem d_Model_feed_23 : decode b_Model_feed 23 = .ok (.iload 4, 2) := by decide +kernel
theorem d_Model_feed_25 : decode b_Model_feed 25 = .ok (.invokestatic 96, 3) := by decide +kernel
theorem d_Model_feed_28 : decode b_Model_feed 28 = .ok (.ifCond .eq 19, 3) := by decide +kernel
theorem d_Model_feed_31 : decode b_Model_feed 31 = .ok (.iload 5, 2) := by decide +kernel
theorem d_Model_feed_33 : decode b_Model_feed 33 = .ok (.invokestatic 96, 3) := by decide +kernel
theorem d_Model_feed_36 : decode b_Model_feed 36 = .ok (.ifCond .eq 11, 3) := by decide +kernel
theorem d_Model_feed_39 : decode b_Model_feed 39 = .ok (.iload 6, 2) := by decide +kernel
theorem d_Model_feed_41 : decode b_Model_feed 41 = .ok (.invokestatic 96, 3) := by decide +kernel
theorem d_Model_feed_44 : decode b_Model_feed 44 = .ok (.ifCond .ne 6, 3) := by decide +kernel
theorem d_Model_feed_47 : decode b_Model_feed 47 = .ok (.bipush (-2), 2) := by decide +kernel
theorem d_Model_feed_49 : decode b_Model_feed 49 = .ok (.ireturn, 1) := by decide +kernel
theorem d_Model_feed_50 : decode b_Model_feed 50 = .ok (.aload_n 0, 1) := by decide +kernel
theorem d_Model_feed_51 : decode b_Model_feed 51 = .ok (.getfield 67, 3) := by decide +kernel
theorem d_Model_feed_54 : decode b_Model_feed 54 = .ok (.iload_n 1, 1) := by decide +kernel
theorem d_Model_feed_55 : decode b_Model_feed 55 = .ok (.iadd, 1) := by decide +kernel
theorem d_Model_feed_56 : decode b_Model_feed 56 = .ok (.sipush 160, 3) := by decide +kernel
theorem d_Model_feed_59 : decode b_Model_feed 59 = .ok (.if_icmp .le 6, 3) := by decide +kernel
theorem d_Model_feed_62 : decode b_Model_feed 62 = .ok (.bipush (-4), 2) := by decide +kernel
theorem d_Model_feed_64 : decode b_Model_feed 64 = .ok (.ireturn, 1) := by decide +kernel
theorem d_Model_feed_65 : decode b_Model_feed 65 = .ok (.iconst 0, 1) := by decide +kernel
theorem d_Model_feed_66 : decode b_Model_feed 66 = .ok (.istore 7, 2) := by decide +kernel
theorem d_Model_feed_68 : decode b_Model_feed 68 = .ok (.iload 7, 2) := by decide +kernel
theorem d_Model_feed_70 : decode b_Model_feed 70 = .ok (.iload_n 1, 1) := by decide +kernel
theorem d_Model_feed_71 : decode b_Model_feed 71 = .ok (.if_icmp .ge 71, 3) := by decide +kernel
theorem d_Model_feed_74 : decode b_Model_feed 74 = .ok (.aload_n 0, 1) := by decide +kernel
theorem d_Model_feed_75 : decode b_Model_feed 75 = .ok (.getfield 25, 3) := by decide +kernel
theorem d_Model_feed_78 : decode b_Model_feed 78 = .ok (.aload_n 0, 1) := by decide +kernel
theorem d_Model_feed_79 : decode b_Model_feed 79 = .ok (.getfield 67, 3) := by decide +kernel
theorem d_Model_feed_82 : decode b_Model_feed 82 = .ok (.iload 7, 2) := by decide +kernel
theorem d_Model_feed_84 : decode b_Model_feed 84 = .ok (.ifCond .ne 7, 3) := by decide +kernel
theorem d_Model_feed_87 : decode b_Model_feed 87 = .ok (.iload_n 2, 1) := by decide +kernel
theorem d_Model_feed_88 : decode b_Model_feed 88 = .ok (.goto 37, 3) := by decide +kernel
theorem d_Model_feed_91 : decode b_Model_feed 91 = .ok (.iload 7, 2) := by decide +kernel
theorem d_Model_feed_93 : decode b_Model_feed 93 = .ok (.iconst 1, 1) := by decide +kernel
theorem d_Model_feed_94 : decode b_Model_feed 94 = .ok (.if_icmp .ne 7, 3) := by decide +kernel
theorem d_Model_feed_97 : decode b_Model_feed 97 = .ok (.iload_n 3, 1) := by decide +kernel
theorem d_Model_feed_98 : decode b_Model_feed 98 = .ok (.goto 27, 3) := by decide +kernel
theorem d_Model_feed_101 : decode b_Model_feed 101 = .ok (.iload 7, 2) := by decide +kernel
theorem d_Model_feed_103 : decode b_Model_feed 103 = .ok (.iconst 2, 1) := by decide +kernel
theorem d_Model_feed_104 : decode b_Model_feed 104 = .ok (.if_icmp .ne 8, 3) := by decide +kernel
theorem d_Model_feed_107 : decode b_Model_feed 107 = .ok (.iload 4, 2) := by decide +kernel
theorem d_Model_feed_109 : decode b_Model_feed 109 = .ok (.goto 16, 3) := by decide +kernel
theorem d_Model_feed_112 : decode b_Model_feed 112 = .ok (.iload 7, 2) := by decide +kernel
theorem d_Model_feed_114 : decode b_Model_feed 114 = .ok (.iconst 3, 1) := by decide +kernel
theorem d_Model_feed_115 : decode b_Model_feed 115 = .ok (.if_icmp .ne 8, 3) := by decide +kernel
theorem d_Model_feed_118 : decode b_Model_feed 118 = .ok (.iload 5, 2) := by decide +kernel
theorem d_Model_feed_120 : decode b_Model_feed 120 = .ok (.goto 5, 3) := by decide +kernel
theorem d_Model_feed_123 : decode b_Model_feed 123 = .ok (.iload 6, 2) := by decide +kernel
theorem d_Model_feed_125 : decode b_Model_feed 125 = .ok (.iastore, 1) := by decide +kernel
theorem d_Model_feed_126 : decode b_Model_feed 126 = .ok (.aload_n 0, 1) := by decide +kernel
theorem d_Model_feed_127 : decode b_Model_feed 127 = .ok (.dup, 1) := by decide +kernel
theorem d_Model_feed_128 : decode b_Model_feed 128 = .ok (.getfield 67, 3) := by decide +kernel
theorem d_Model_feed_131 : decode b_Model_feed 131 = .ok (.iconst 1, 1) := by decide +kernel
theorem d_Model_feed_132 : decode b_Model_feed 132 = .ok (.iadd, 1) := by decide +kernel
theorem d_Model_feed_133 : decode b_Model_feed 133 = .ok (.putfield 67, 3) := by decide +kernel
theorem d_Model_feed_136 : decode b_Model_feed 136 = .ok (.iinc 7 1, 3) := by decide +kernel
theorem d_Model_feed_139 : decode b_Model_feed 139 = .ok (.goto (-71), 3) := by decide +kernel
theorem d_Model_feed_142 : decode b_Model_feed 142 = .ok (.aload_n 0, 1) := by decide +kernel
theorem d_Model_feed_143 : decode b_Model_feed 143 = .ok (.getfield 67, 3) := by decide +kernel
theorem d_Model_feed_146 : decode b_Model_feed 146 = .ok (.ireturn, 1) := by decide +kernel
section S_Model_feed
variable {p : Program} {l : Launch} {e : Env} {s : State} {m : MethodId} {args : Array Value} {below : List Frame} {meth : Method} {c : Code} {D : va_G} {cA : Nat → ClassId} {ad : Nat → Nat} {nC : Nat} {A : Nat → Prop} {r : Int32} {τ : St}
noncomputable def F_Model_feed_125 (k32 : (St → Int32 → Int32 → Int32 → Int32 → Int32 → Int32 → Int32 → Option (Int32 × St))) (s0 : St) (v1 : Int32) (v2 : Int32) (v3 : Int32) (v4 : Int32) (v5 : Int32) (v6 : Int32) (v7 : Int32) (t1 : Int32) (t2 : Int32) : Option (Int32 × St) := (if inB t1 160 = true then (lt (up1 s0 6 t1.toNatClampNeg t2) (fun s_19 => (lt (up1 s_19 0 7 ((s_19.1 0 7) + (1 : Int32))) (fun s_20 => (k32 s_20 v1 v2 v3 v4 v5 v6 (v7 + 1)))))) else none)
set_option maxHeartbeats 4000000 in
set_option maxRecDepth 100000 in
theorem q_Model_feed_125 (K : Fx p s m args meth c b_Model_feed 8 R_Model (some .int)) (k32 : (St → Int32 → Int32 → Int32 → Int32 → Int32 → Int32 → Int32 → Option (Int32 × St))) (hk32 : ∀ (H : Heap) (locs : List Loc) (ls : Array Slot) (s0 : St) (v1 : Int32) (v2 : Int32) (v3 : Int32) (v4 : Int32) (v5 : Int32) (v6 : Int32) (v7 : Int32), Wh D cA ad shM A s s0 H locs → lv_has ls 8 [(0, .ref (ad 0)), (1, .int v1), (2, .int v2), (3, .int v3), (4, .int v4), (5, .int v5), (6, .int v6), (7, .int v7)] → k32 s0 v1 v2 v3 v4 v5 v6 v7 = (some (r, τ)) → W p l e rm_Model_feed s m args below meth c H locs 0 0 (MQ below (QcI D cA ad shM A r τ) args s 0 0 A) (F0 m 68 ls [])) : ∀ (H : Heap) (locs : List Loc) (ls : Array Slot) (s0 : St) (v1 : Int32) (v2 : Int32) (v3 : Int32) (v4 : Int32) (v5 : Int32) (v6 : Int32) (v7 : Int32) (t1 : Int32) (t2 : Int32), Wh D cA ad shM A s s0 H locs → lv_has ls 8 [(0, .ref (ad 0)), (1, .int v1), (2, .int v2), (3, .int v3), (4, .int v4), (5, .int v5), (6, .int v6), (7, .int v7)] → F_Model_feed_125 k32 s0 v1 v2 v3 v4 v5 v6 v7 t1 t2 = (some (r, τ)) → W p l e rm_Model_feed s m args below meth c H locs 0 0 (MQ below (QcI D cA ad shM A r τ) args s 0 0 A) (F0 m 125 ls [.int t2, .int t1, .ref (ad 6)]) := by
  have hx := K.1.1; have hb := K.1.2.1
  intro H locs ls s0 v1 v2 v3 v4 v5 v6 v7 t1 t2 hw hl hF
  unfold F_Model_feed_125 at hF
  obtain ⟨g_18, hF⟩ := ifG hF
  refine r_iast (k := t1.toNatClampNeg) K hw (show shM[6]? = some (.inr (.inl 160)) from rfl) rfl (inB_vp g_18) d_Model_feed_125 (fun s_19 f_s_19 H locs hw => ?_)
  replace hF := ltN hF f_s_19
  refine lv_aload_n hx hb d_Model_feed_126 rfl (lv_at hl 0 rfl) ?_
  refine lv_dup hx hb d_Model_feed_127 rfl ?_
  refine r_get (v := .int (s_19.1 0 7)) K hw i_Model sh_Model rfl 7 (by decide) w_1032 rfl rfl rfl d_Model_feed_128 ?_
  refine lv_iconst (v := 1) hx hb d_Model_feed_131 (by decide) ?_
  refine lv_iadd hx hb d_Model_feed_132 ?_
  refine r_putI K hw i_Model t_Model t_Model_ok n_Model sh_Model rfl 7 (by decide) w_1032 rfl rfl rfl rfl rfl d_Model_feed_133 (fun s_20 f_s_20 H locs hw => ?_)
  replace hF := ltN hF f_s_20
  refine lv_iinc (v := (v7 + 1)) (lv' := [(7, .int (v7 + 1)), (0, .ref (ad 0)), (1, .int v1), (2, .int v2), (3, .int v3), (4, .int v4), (5, .int v5), (6, .int v6)]) hx hb d_Model_feed_136 hl (k := 7) rfl rfl (by decide) rfl (fun ls hl => ?_)
  refine lv_goto (tgt := 68) hx hb d_Model_feed_139 (by decide) ?_
  exact hk32 _ _ _ _ _ _ _ _ _ _ _  hw (lv_sub hl [1, 2, 3, 4, 5, 6, 7, 0] rfl) hF
noncomputable def F_Model_feed_68 : Nat → St → Int32 → Int32 → Int32 → Int32 → Int32 → Int32 → Int32 → Option (Int32 × St)
  | 0, _, _, _, _, _, _, _, _ => none
  | n + 1, s0, v1, v2, v3, v4, v5, v6, v7 => (if v1 ≤ v7 then (some ((s0.1 0 7), s0)) else (if ¬ v7 = 0 then (if ¬ v7 = (1 : Int32) then (if ¬ v7 = (2 : Int32) then (if ¬ v7 = (3 : Int32) then (F_Model_feed_125 (fun z0 zv1 zv2 zv3 zv4 zv5 zv6 zv7 => F_Model_feed_68 n z0 zv1 zv2 zv3 zv4 zv5 zv6 zv7) s0 v1 v2 v3 v4 v5 v6 v7 (s0.1 0 7) v6) else (F_Model_feed_125 (fun z0 zv1 zv2 zv3 zv4 zv5 zv6 zv7 => F_Model_feed_68 n z0 zv1 zv2 zv3 zv4 zv5 zv6 zv7) s0 v1 v2 v3 v4 v5 v6 v7 (s0.1 0 7) v5)) else (F_Model_feed_125 (fun z0 zv1 zv2 zv3 zv4 zv5 zv6 zv7 => F_Model_feed_68 n z0 zv1 zv2 zv3 zv4 zv5 zv6 zv7) s0 v1 v2 v3 v4 v5 v6 v7 (s0.1 0 7) v4)) else (F_Model_feed_125 (fun z0 zv1 zv2 zv3 zv4 zv5 zv6 zv7 => F_Model_feed_68 n z0 zv1 zv2 zv3 zv4 zv5 zv6 zv7) s0 v1 v2 v3 v4 v5 v6 v7 (s0.1 0 7) v3)) else (F_Model_feed_125 (fun z0 zv1 zv2 zv3 zv4 zv5 zv6 zv7 => F_Model_feed_68 n z0 zv1 zv2 zv3 zv4 zv5 zv6 zv7) s0 v1 v2 v3 v4 v5 v6 v7 (s0.1 0 7) v2)))
set_option maxHeartbeats 4000000 in
set_option maxRecDepth 100000 in
theorem q_Model_feed_68 (K : Fx p s m args meth c b_Model_feed 8 R_Model (some .int))  : ∀ (n : Nat), ∀ (H : Heap) (locs : List Loc) (ls : Array Slot) (s0 : St) (v1 : Int32) (v2 : Int32) (v3 : Int32) (v4 : Int32) (v5 : Int32) (v6 : Int32) (v7 : Int32), Wh D cA ad shM A s s0 H locs → lv_has ls 8 [(0, .ref (ad 0)), (1, .int v1), (2, .int v2), (3, .int v3), (4, .int v4), (5, .int v5), (6, .int v6), (7, .int v7)] → F_Model_feed_68 n s0 v1 v2 v3 v4 v5 v6 v7 = (some (r, τ)) → W p l e rm_Model_feed s m args below meth c H locs 0 0 (MQ below (QcI D cA ad shM A r τ) args s 0 0 A) (F0 m 68 ls []) := by
  have hx := K.1.1; have hb := K.1.2.1
  intro n
  induction n with
  | zero =>
    intro H locs ls s0 v1 v2 v3 v4 v5 v6 v7 hw hl hF
    exact absurd hF (by rw [F_Model_feed_68]; exact nofun)
  | succ n ih =>
    intro H locs ls s0 v1 v2 v3 v4 v5 v6 v7 hw hl hF
    rw [F_Model_feed_68] at hF
    refine lv_iload hx hb d_Model_feed_68 (lv_at hl 7 rfl) ?_
    refine lv_iload_n hx hb d_Model_feed_70 rfl (lv_at hl 1 rfl) ?_
    refine lv_icmp_ge (tgt := 142) hx hb d_Model_feed_71 (by decide) (fun c_13 => ?_) (fun c_13 => ?_)
    · replace hF := ifT hF c_13
      refine lv_aload_n hx hb d_Model_feed_142 rfl (lv_at hl 0 rfl) ?_
      refine r_get (v := .int (s0.1 0 7)) K hw i_Model sh_Model rfl 7 (by decide) w_1032 rfl rfl rfl d_Model_feed_143 ?_
      obtain ⟨hF, hG⟩ := sE2 hF
      subst hF
      subst hG
      exact r_iret K hw d_Model_feed_146
    · replace hF := ifF hF c_13
      refine lv_aload_n hx hb d_Model_feed_74 rfl (lv_at hl 0 rfl) ?_
      refine r_get (v := .ref (ad 6)) K hw i_Model sh_Model rfl 6 (by decide) w_1031 rfl rfl rfl d_Model_feed_75 ?_
      refine lv_aload_n hx hb d_Model_feed_78 rfl (lv_at hl 0 rfl) ?_
      refine r_get (v := .int (s0.1 0 7)) K hw i_Model sh_Model rfl 7 (by decide) w_1032 rfl rfl rfl d_Model_feed_79 ?_
      refine lv_iload hx hb d_Model_feed_82 (lv_at hl 7 rfl) ?_
      refine lv_if_ne (tgt := 91) hx hb d_Model_feed_84 (by decide) (fun c_14 => ?_) (fun c_14 => ?_)
      · replace hF := ifT hF c_14
        refine lv_iload hx hb d_Model_feed_91 (lv_at hl 7 rfl) ?_
        refine lv_iconst (v := 1) hx hb d_Model_feed_93 (by decide) ?_
        refine lv_icmp_ne (tgt := 101) hx hb d_Model_feed_94 (by decide) (fun c_15 => ?_) (fun c_15 => ?_)
        · replace hF := ifT hF c_15
          refine lv_iload hx hb d_Model_feed_101 (lv_at hl 7 rfl) ?_
          refine lv_iconst (v := 2) hx hb d_Model_feed_103 (by decide) ?_
          refine lv_icmp_ne (tgt := 112) hx hb d_Model_feed_104 (by decide) (fun c_16 => ?_) (fun c_16 => ?_)
          · replace hF := ifT hF c_16
            refine lv_iload hx hb d_Model_feed_112 (lv_at hl 7 rfl) ?_
            refine lv_iconst (v := 3) hx hb d_Model_feed_114 (by decide) ?_
            refine lv_icmp_ne (tgt := 123) hx hb d_Model_feed_115 (by decide) (fun c_17 => ?_) (fun c_17 => ?_)
            · replace hF := ifT hF c_17
              refine lv_iload hx hb d_Model_feed_123 (lv_at hl 6 rfl) ?_
              exact q_Model_feed_125 K (fun z0 zv1 zv2 zv3 zv4 zv5 zv6 zv7 => F_Model_feed_68 n z0 zv1 zv2 zv3 zv4 zv5 zv6 zv7) ih _ _ _ _ _ _ _ _ _ _ _ _ _  hw (lv_sub hl [0, 1, 2, 3, 4, 5, 6, 7] rfl) hF
            · replace hF := ifN hF c_17
              refine lv_iload hx hb d_Model_feed_118 (lv_at hl 5 rfl) ?_
              refine lv_goto (tgt := 125) hx hb d_Model_feed_120 (by decide) ?_
              exact q_Model_feed_125 K (fun z0 zv1 zv2 zv3 zv4 zv5 zv6 zv7 => F_Model_feed_68 n z0 zv1 zv2 zv3 zv4 zv5 zv6 zv7) ih _ _ _ _ _ _ _ _ _ _ _ _ _  hw (lv_sub hl [0, 1, 2, 3, 4, 5, 6, 7] rfl) hF
          · replace hF := ifN hF c_16
            refine lv_iload hx hb d_Model_feed_107 (lv_at hl 4 rfl) ?_
            refine lv_goto (tgt := 125) hx hb d_Model_feed_109 (by decide) ?_
            exact q_Model_feed_125 K (fun z0 zv1 zv2 zv3 zv4 zv5 zv6 zv7 => F_Model_feed_68 n z0 zv1 zv2 zv3 zv4 zv5 zv6 zv7) ih _ _ _ _ _ _ _ _ _ _ _ _ _  hw (lv_sub hl [0, 1, 2, 3, 4, 5, 6, 7] rfl) hF
        · replace hF := ifN hF c_15
          refine lv_iload_n hx hb d_Model_feed_97 rfl (lv_at hl 3 rfl) ?_
          refine lv_goto (tgt := 125) hx hb d_Model_feed_98 (by decide) ?_
          exact q_Model_feed_125 K (fun z0 zv1 zv2 zv3 zv4 zv5 zv6 zv7 => F_Model_feed_68 n z0 zv1 zv2 zv3 zv4 zv5 zv6 zv7) ih _ _ _ _ _ _ _ _ _ _ _ _ _  hw (lv_sub hl [0, 1, 2, 3, 4, 5, 6, 7] rfl) hF
      · replace hF := ifN hF c_14
        refine lv_iload_n hx hb d_Model_feed_87 rfl (lv_at hl 2 rfl) ?_
        refine lv_goto (tgt := 125) hx hb d_Model_feed_88 (by decide) ?_
        exact q_Model_feed_125 K (fun z0 zv1 zv2 zv3 zv4 zv5 zv6 zv7 => F_Model_feed_68 n z0 zv1 zv2 zv3 zv4 zv5 zv6 zv7) ih _ _ _ _ _ _ _ _ _ _ _ _ _  hw (lv_sub hl [0, 1, 2, 3, 4, 5, 6, 7] rfl) hF
noncomputable def F_Model_feed_0 (s0 : St) (v1 : Int32) (v2 : Int32) (v3 : Int32) (v4 : Int32) (v5 : Int32) (v6 : Int32) : Option (Int32 × St) := (if (F_Model_in v1 (1 : Int32) (5 : Int32)) = 0 then (some ((-2 : Int32), s0)) else (ob1 (F_Model_isByte v2) (fun r_2 => (if r_2 = 0 then (some ((-2 : Int32), s0)) else (ob1 (F_Model_isByte v3) (fun r_4 => (if r_4 = 0 then (some ((-2 : Int32), s0)) else (ob1 (F_Model_isByte v4) (fun r_6 => (if r_6 = 0 then (some ((-2 : Int32), s0)) else (ob1 (F_Model_isByte v5) (fun r_8 => (if r_8 = 0 then (some ((-2 : Int32), s0)) else (ob1 (F_Model_isByte v6) (fun r_10 => (if ¬ r_10 = 0 then (if ((s0.1 0 7) + v1) ≤ (160 : Int32) then (F_Model_feed_68 FU s0 v1 v2 v3 v4 v5 v6 (0 : Int32)) else (some ((-4 : Int32), s0))) else (some ((-2 : Int32), s0))))))))))))))))))
set_option maxHeartbeats 4000000 in
set_option maxRecDepth 100000 in
theorem q_Model_feed_0 (K : Fx p s m args meth c b_Model_feed 8 R_Model (some .int))  : ∀ (H : Heap) (locs : List Loc) (ls : Array Slot) (s0 : St) (v1 : Int32) (v2 : Int32) (v3 : Int32) (v4 : Int32) (v5 : Int32) (v6 : Int32), Wh D cA ad shM A s s0 H locs → lv_has ls 8 [(0, .ref (ad 0)), (1, .int v1), (2, .int v2), (3, .int v3), (4, .int v4), (5, .int v5), (6, .int v6)] → F_Model_feed_0 s0 v1 v2 v3 v4 v5 v6 = (some (r, τ)) → W p l e rm_Model_feed s m args below meth c H locs 0 0 (MQ below (QcI D cA ad shM A r τ) args s 0 0 A) (F0 m 0 ls []) := by
  have hx := K.1.1; have hb := K.1.2.1
  intro H locs ls s0 v1 v2 v3 v4 v5 v6 hw hl hF
  unfold F_Model_feed_0 at hF
  refine lv_iload_n hx hb d_Model_feed_0 rfl (lv_at hl 1 rfl) ?_
  refine lv_iconst (v := 1) hx hb d_Model_feed_1 (by decide) ?_
  refine lv_iconst (v := 5) hx hb d_Model_feed_2 (by decide) ?_
  refine r_callSI (As := [.int v1, .int (1 : Int32), .int (5 : Int32)]) (rest := []) K hw hl.1 (c_Model_in (l := l) (D := D) (cA := cA) (ad := ad) (s0 := s0)   rfl) (tb_gS w_986 w_987 w_80 w_988) a_Model_in ⟨rfl, rfl, Nat.le_of_ble_eq_true rfl, Nat.le_of_ble_eq_true rfl⟩ rfl rfl (Nat.le_of_ble_eq_true rfl) d_Model_feed_3 (fun H locs hw => ?_)
  refine lv_if_eq (tgt := 47) hx hb d_Model_feed_6 (by decide) (fun c_1 => ?_) (fun c_1 => ?_)
  · replace hF := ifT hF c_1
    refine lv_bipush (v := -2) hx hb d_Model_feed_47 (by decide) ?_
    obtain ⟨hF, hG⟩ := sE2 hF
    subst hF
    subst hG
    exact r_iret K hw d_Model_feed_49
  · replace hF := ifF hF c_1
    refine lv_iload_n hx hb d_Model_feed_9 rfl (lv_at hl 2 rfl) ?_
    obtain ⟨r_2, h_r_2, hF⟩ := ob1E hF
    refine r_callSI (As := [.int v2]) (rest := []) K hw hl.1 (c_Model_isByte (l := l) (D := D) (cA := cA) (ad := ad) (s0 := s0)   h_r_2) (tb_gS w_1169 w_1170 w_80 w_1171) a_Model_isByte ⟨rfl, rfl, Nat.le_of_ble_eq_true rfl, Nat.le_of_ble_eq_true rfl⟩ rfl rfl (Nat.le_of_ble_eq_true rfl) d_Model_feed_10 (fun H locs hw => ?_)
    refine lv_if_eq (tgt := 47) hx hb d_Model_feed_13 (by decide) (fun c_3 => ?_) (fun c_3 => ?_)
    · replace hF := ifT hF c_3
      refine lv_bipush (v := -2) hx hb d_Model_feed_47 (by decide) ?_
      obtain ⟨hF, hG⟩ := sE2 hF
      subst hF
      subst hG
      exact r_iret K hw d_Model_feed_49
    · replace hF := ifF hF c_3
      refine lv_iload_n hx hb d_Model_feed_16 rfl (lv_at hl 3 rfl) ?_
      obtain ⟨r_4, h_r_4, hF⟩ := ob1E hF
      refine r_callSI (As := [.int v3]) (rest := []) K hw hl.1 (c_Model_isByte (l := l) (D := D) (cA := cA) (ad := ad) (s0 := s0)   h_r_4) (tb_gS w_1169 w_1170 w_80 w_1171) a_Model_isByte ⟨rfl, rfl, Nat.le_of_ble_eq_true rfl, Nat.le_of_ble_eq_true rfl⟩ rfl rfl (Nat.le_of_ble_eq_true rfl) d_Model_feed_17 (fun H locs hw => ?_)
      refine lv_if_eq (tgt := 47) hx hb d_Model_feed_20 (by decide) (fun c_5 => ?_) (fun c_5 => ?_)
      · replace hF := ifT hF c_5
        refine lv_bipush (v := -2) hx hb d_Model_feed_47 (by decide) ?_
        obtain ⟨hF, hG⟩ := sE2 hF
        subst hF
        subst hG
        exact r_iret K hw d_Model_feed_49
      · replace hF := ifF hF c_5
        refine lv_iload hx hb d_Model_feed_23 (lv_at hl 4 rfl) ?_
        obtain ⟨r_6, h_r_6, hF⟩ := ob1E hF
        refine r_callSI (As := [.int v4]) (rest := []) K hw hl.1 (c_Model_isByte (l := l) (D := D) (cA := cA) (ad := ad) (s0 := s0)   h_r_6) (tb_gS w_1169 w_1170 w_80 w_1171) a_Model_isByte ⟨rfl, rfl, Nat.le_of_ble_eq_true rfl, Nat.le_of_ble_eq_true rfl⟩ rfl rfl (Nat.le_of_ble_eq_true rfl) d_Model_feed_25 (fun H locs hw => ?_)
        refine lv_if_eq (tgt := 47) hx hb d_Model_feed_28 (by decide) (fun c_7 => ?_) (fun c_7 => ?_)
        · replace hF := ifT hF c_7
          refine lv_bipush (v := -2) hx hb d_Model_feed_47 (by decide) ?_
          obtain ⟨hF, hG⟩ := sE2 hF
          subst hF
          subst hG
          exact r_iret K hw d_Model_feed_49
        · replace hF := ifF hF c_7
          refine lv_iload hx hb d_Model_feed_31 (lv_at hl 5 rfl) ?_
          obtain ⟨r_8, h_r_8, hF⟩ := ob1E hF
          refine r_callSI (As := [.int v5]) (rest := []) K hw hl.1 (c_Model_isByte (l := l) (D := D) (cA := cA) (ad := ad) (s0 := s0)   h_r_8) (tb_gS w_1169 w_1170 w_80 w_1171) a_Model_isByte ⟨rfl, rfl, Nat.le_of_ble_eq_true rfl, Nat.le_of_ble_eq_true rfl⟩ rfl rfl (Nat.le_of_ble_eq_true rfl) d_Model_feed_33 (fun H locs hw => ?_)
          refine lv_if_eq (tgt := 47) hx hb d_Model_feed_36 (by decide) (fun c_9 => ?_) (fun c_9 => ?_)
          · replace hF := ifT hF c_9
            refine lv_bipush (v := -2) hx hb d_Model_feed_47 (by decide) ?_
            obtain ⟨hF, hG⟩ := sE2 hF
            subst hF
            subst hG
            exact r_iret K hw d_Model_feed_49
          · replace hF := ifF hF c_9
            refine lv_iload hx hb d_Model_feed_39 (lv_at hl 6 rfl) ?_
            obtain ⟨r_10, h_r_10, hF⟩ := ob1E hF
            refine r_callSI (As := [.int v6]) (rest := []) K hw hl.1 (c_Model_isByte (l := l) (D := D) (cA := cA) (ad := ad) (s0 := s0)   h_r_10) (tb_gS w_1169 w_1170 w_80 w_1171) a_Model_isByte ⟨rfl, rfl, Nat.le_of_ble_eq_true rfl, Nat.le_of_ble_eq_true rfl⟩ rfl rfl (Nat.le_of_ble_eq_true rfl) d_Model_feed_41 (fun H locs hw => ?_)
            refine lv_if_ne (tgt := 50) hx hb d_Model_feed_44 (by decide) (fun c_11 => ?_) (fun c_11 => ?_)
            · replace hF := ifT hF c_11
              refine lv_aload_n hx hb d_Model_feed_50 rfl (lv_at hl 0 rfl) ?_
              refine r_get (v := .int (s0.1 0 7)) K hw i_Model sh_Model rfl 7 (by decide) w_1032 rfl rfl rfl d_Model_feed_51 ?_
              refine lv_iload_n hx hb d_Model_feed_54 rfl (lv_at hl 1 rfl) ?_
              refine lv_iadd hx hb d_Model_feed_55 ?_
              refine lv_sipush (v := 160) hx hb d_Model_feed_56 (by decide) ?_
              refine lv_icmp_le (tgt := 65) hx hb d_Model_feed_59 (by decide) (fun c_12 => ?_) (fun c_12 => ?_)
              · replace hF := ifT hF c_12
                refine lv_iconst (v := 0) hx hb d_Model_feed_65 (by decide) ?_
                refine lv_istore (lv' := [(7, .int (0 : Int32)), (0, .ref (ad 0)), (1, .int v1), (2, .int v2), (3, .int v3), (4, .int v4), (5, .int v5), (6, .int v6)]) hx hb d_Model_feed_66 hl (by decide) rfl (fun ls hl => ?_)
                exact q_Model_feed_68 K FU _ _ _ _ _ _ _ _ _ _ _  hw (lv_sub hl [1, 2, 3, 4, 5, 6, 7, 0] rfl) hF
              · replace hF := ifF hF c_12
                refine lv_bipush (v := -4) hx hb d_Model_feed_62 (by decide) ?_
                obtain ⟨hF, hG⟩ := sE2 hF
                subst hF
                subst hG
                exact r_iret K hw d_Model_feed_64
            · replace hF := ifN hF c_11
              refine lv_bipush (v := -2) hx hb d_Model_feed_47 (by decide) ?_
              obtain ⟨hF, hG⟩ := sE2 hF
              subst hF
              subst hG
              exact r_iret K hw d_Model_feed_49
end S_Model_feed
noncomputable abbrev F_Model_feed := F_Model_feed_0
theorem c_Model_feed {l : Launch} {D : va_G} {cA : Nat → ClassId} {ad : Nat → Nat} {s0 τ : St} {r : Int32} {v1 : Int32} {v2 : Int32} {v3 : Int32} {v4 : Int32} {v5 : Int32} {v6 : Int32}  (hF : F_Model_feed s0 v1 v2 v3 v4 v5 v6 = (some (r, τ))) : MI l D cA ad shM y_Model_feed (wT y_Model_feed b_Model_feed 8 (some .int)) rm_Model_feed [.ref (ad 0), .int v1, .int v2, .int v3, .int v4, .int v5, .int v6] s0 r τ := fun sz => m_start (Qc := fun A => QcI D cA ad shM A r τ) (by decide +kernel) w_1168 (Nat.le_of_ble_eq_true rfl) (fun p e s m below meth c ls K hl hw => q_Model_feed_0 K _ _ _ _ _ _ _ _ _ _  hw hl hF)

/-! Model.wordFrom(II)I -/
abbrev b_Model_wordFrom : ByteArray := prog_13_method_11_code
def y_Model_wordFrom : MethodName := ⟨R_Model, "wordFrom", "(II)I"⟩
theorem a_Model_wordFrom : y_Model_wordFrom.cls = R_Model ∧ y_Model_wordFrom.cls ≠ "java/lang/invoke/MethodHandle" ∧ y_Model_wordFrom.cls ≠ "java/lang/invoke/VarHandle" ∧ (parseMethodDescriptor y_Model_wordFrom.desc).map (fun d => d.parameters.length) = some 2 := by decide +kernel
abbrev rm_Model_wordFrom : Room := { frames := 0, cells := 0, slots := 0, locals := 0 }
theorem w_1050 : Cond.fieldLink R_Model 52 R_Model "words" "[I" ∈ TB := tb_in 1050 (by decide +kernel) (by decide +kernel)
theorem w_992 : Cond.code y_Model_wordFrom b_Model_wordFrom 6 (some .int) ∈ TB := tb_in 992 (by decide +kernel) (by decide +kernel)
theorem d_Model_wordFrom_0 : decode b_Model_wordFrom 0 = .ok (.iconst 0, 1) := by decide +kernel
theorem d_Model_wordFrom_1 : decode b_Model_wordFrom 1 = .ok (.istore_n 3, 1) := by decide +kernel
theorem d_Model_wordFrom_2 : decode b_Model_wordFrom 2 = .ok (.iload_n 3, 1) := by decide +kernel
theorem d_Model_wordFrom_3 : decode b_Model_wordFrom 3 = .ok (.bipush 12, 2) := by decide +kernel
theorem d_Model_wordFrom_5 : decode b_Model_wordFrom 5 = .ok (.if_icmp .ge 96, 3) := by decide +kernel
theorem d_Model_wordFrom_8 : decode b_Model_wordFrom 8 = .ok (.iload_n 2, 1) := by decide +kernel
theorem d_Model_wordFrom_9 : decode b_Model_wordFrom 9 = .ok (.iload_n 1, 1) := by decide +kernel
theorem d_Model_wordFrom_10 : decode b_Model_wordFrom 10 = .ok (.isub, 1) := by decide +kernel
theorem d_Model_wordFrom_11 : decode b_Model_wordFrom 11 = .ok (.bipush 8, 2) := by decide +kernel
theorem d_Model_wordFrom_13 : decode b_Model_wordFrom 13 = .ok (.if_icmp .gt 7, 3) := by decide +kernel
theorem d_Model_wordFrom_16 : decode b_Model_wordFrom 16 = .ok (.iconst 1, 1) := by decide +kernel
theorem d_Model_wordFrom_17 : decode b_Model_wordFrom 17 = .ok (.goto 4, 3) := by decide +kernel
theorem d_Model_wordFrom_20 : decode b_Model_wordFrom 20 = .ok (.iconst 0, 1) := by decide +kernel
theorem d_Model_wordFrom_21 : decode b_Model_wordFrom 21 = .ok (.istore 4, 2) := by decide +kernel
theorem d_Model_wordFrom_23 : decode b_Model_wordFrom 23 = .ok (.iconst 0, 1) := by decide +kernel
theorem d_Model_wordFrom_24 : decode b_Model_wordFrom 24 = .ok (.istore 5, 2) := by decide +kernel
theorem d_Model_wordFrom_26 : decode b_Model_wordFrom 26 = .ok (.iload 5, 2) := by decide +kernel
theorem d_Model_wordFrom_28 : decode b_Model_wordFrom 28 = .ok (.bipush 8, 2) := by decide +kernel
theorem d_Model_wordFrom_30 : decode b_Model_wordFrom 30 = .ok (.if_icmp .ge 58, 3) := by decide +kernel
theorem d_Model_wordFrom_33 : decode b_Model_wordFrom 33 = .ok (.iload 4, 2) := by decide +kernel
theorem d_Model_wordFrom_35 : decode b_Model_wordFrom 35 = .ok (.ifCond .eq 53, 3) := by decide +kernel
theorem d_Model_wordFrom_38 : decode b_Model_wordFrom 38 = .ok (.aload_n 0, 1) := by decide +kernel
theorem d_Model_wordFrom_39 : decode b_Model_wordFrom 39 = .ok (.getfield 52, 3) := by decide +kernel
theorem d_Model_wordFrom_42 : decode b_Model_wordFrom 42 = .ok (.bipush 8, 2) := by decide +kernel
theorem d_Model_wordFrom_44 : decode b_Model_wordFrom 44 = .ok (.iload_n 3, 1) := by decide +kernel
theorem d_Model_wordFrom_45 : decode b_Model_wordFrom 45 = .ok (.imul, 1) := by decide +kernel
theorem d_Model_wordFrom_46 : decode b_Model_wordFrom 46 = .ok (.iload 5, 2) := by decide +kernel
theorem d_Model_wordFrom_48 : decode b_Model_wordFrom 48 = .ok (.iadd, 1) := by decide +kernel
theorem d_Model_wordFrom_49 : decode b_Model_wordFrom 49 = .ok (.iaload, 1) := by decide +kernel
theorem d_Model_wordFrom_50 : decode b_Model_wordFrom 50 = .ok (.iload_n 1, 1) := by decide +kernel
theorem d_Model_wordFrom_51 : decode b_Model_wordFrom 51 = .ok (.iload 5, 2) := by decide +kernel
theorem d_Model_wordFrom_53 : decode b_Model_wordFrom 53 = .ok (.iadd, 1) := by decide +kernel
theorem d_Model_wordFrom_54 : decode b_Model_wordFrom 54 = .ok (.iload_n 2, 1) := by decide +kernel
theorem d_Model_wordFrom_55 : decode b_Model_wordFrom 55 = .ok (.if_icmp .ge 15, 3) := by decide +kernel
theorem d_Model_wordFrom_58 : decode b_Model_wordFrom 58 = .ok (.aload_n 0, 1) := by decide +kernel
theorem d_Model_wordFrom_59 : decode b_Model_wordFrom 59 = .ok (.getfield 25, 3) := by decide +kernel
theorem d_Model_wordFrom_62 : decode b_Model_wordFrom 62 = .ok (.iload_n 1, 1) := by decide +kernel
theorem d_Model_wordFrom_63 : decode b_Model_wordFrom 63 = .ok (.iload 5, 2) := by decide +kernel
theorem d_Model_wordFrom_65 : decode b_Model_wordFrom 65 = .ok (.iadd, 1) := by decide +kernel
theorem d_Model_wordFrom_66 : decode b_Model_wordFrom 66 = .ok (.iaload, 1) := by decide +kernel
theorem d_Model_wordFrom_67 : decode b_Model_wordFrom 67 = .ok (.goto 5, 3) := by decide +kernel
theorem d_Model_wordFrom_70 : decode b_Model_wordFrom 70 = .ok (.bipush 32, 2) := by decide +kernel
theorem d_Model_wordFrom_72 : decode b_Model_wordFrom 72 = .ok (.if_icmp .ne 7, 3) := by decide +kernel
theorem d_Model_wordFrom_75 : decode b_Model_wordFrom 75 = .ok (.iconst 1, 1) := by decide +kernel
theorem d_Model_wordFrom_76 : decode b_Model_wordFrom 76 = .ok (.goto 4, 3) := by decide +kernel
theorem d_Model_wordFrom_79 : decode b_Model_wordFrom 79 = .ok (.iconst 0, 1) := by decide +kernel
theorem d_Model_wordFrom_80 : decode b_Model_wordFrom 80 = .ok (.istore 4, 2) := by decide +kernel
theorem d_Model_wordFrom_82 : decode b_Model_wordFrom 82 = .ok (.iinc 5 1, 3) := by decide +kernel
theorem d_Model_wordFrom_85 : decode b_Model_wordFrom 85 = .ok (.goto (-59), 3) := by decide +kernel
theorem d_Model_wordFrom_88 : decode b_Model_wordFrom 88 = .ok (.iload 4, 2) := by decide +kernel
theorem d_Model_wordFrom_90 : decode b_Model_wordFrom 90 = .ok (.ifCond .eq 5, 3) := by decide +kernel
theorem d_Model_wordFrom_93 : decode b_Model_wordFrom 93 = .ok (.iload_n 3, 1) := by decide +kernel
theorem d_Model_wordFrom_94 : decode b_Model_wordFrom 94 = .ok (.ireturn, 1) := by decide +kernel
theorem d_Model_wordFrom_95 : decode b_Model_wordFrom 95 = .ok (.iinc 3 1, 3) := by decide +kernel
theorem d_Model_wordFrom_98 : decode b_Model_wordFrom 98 = .ok (.goto (-96), 3) := by decide +kernel
theorem d_Model_wordFrom_101 : decode b_Model_wordFrom 101 = .ok (.bipush 12, 2) := by decide +kernel
theorem d_Model_wordFrom_103 : decode b_Model_wordFrom 103 = .ok (.ireturn, 1) := by decide +kernel
section S_Model_wordFrom
variable {p : Program} {l : Launch} {e : Env} {s : State} {m : MethodId} {args : Array Value} {below : List Frame} {meth : Method} {c : Code} {D : va_G} {cA : Nat → ClassId} {ad : Nat → Nat} {nC : Nat} {A : Nat → Prop} {r : Int32} {τ : St}
noncomputable def F_Model_wordFrom_88 (s0 : St) (k2 : (Int32 → Int32 → Int32 → Option Int32)) (v1 : Int32) (v2 : Int32) (v3 : Int32) (v4 : Int32) : Option Int32 := (if v4 = 0 then (k2 v1 v2 (v3 + 1)) else (some v3))
set_option maxHeartbeats 4000000 in
set_option maxRecDepth 100000 in
theorem q_Model_wordFrom_88 (s0 : St) (K : Fx p s m args meth c b_Model_wordFrom 6 R_Model (some .int)) (k2 : (Int32 → Int32 → Int32 → Option Int32)) (hk2 : ∀ (H : Heap) (locs : List Loc) (ls : Array Slot) (v1 : Int32) (v2 : Int32) (v3 : Int32), Wh D cA ad shM A s s0 H locs → lv_has ls 6 [(0, .ref (ad 0)), (1, .int v1), (2, .int v2), (3, .int v3)] → k2 v1 v2 v3 = (some r) → W p l e rm_Model_wordFrom s m args below meth c H locs 0 0 (MQ below (QcI D cA ad shM A r s0) args s 0 0 A) (F0 m 2 ls [])) : ∀ (H : Heap) (locs : List Loc) (ls : Array Slot) (v1 : Int32) (v2 : Int32) (v3 : Int32) (v4 : Int32), Wh D cA ad shM A s s0 H locs → lv_has ls 6 [(0, .ref (ad 0)), (1, .int v1), (2, .int v2), (3, .int v3), (4, .int v4)] → F_Model_wordFrom_88 s0 k2 v1 v2 v3 v4 = (some r) → W p l e rm_Model_wordFrom s m args below meth c H locs 0 0 (MQ below (QcI D cA ad shM A r s0) args s 0 0 A) (F0 m 88 ls []) := by
  have hx := K.1.1; have hb := K.1.2.1
  intro H locs ls v1 v2 v3 v4 hw hl hF
  unfold F_Model_wordFrom_88 at hF
  refine lv_iload hx hb d_Model_wordFrom_88 (lv_at hl 4 rfl) ?_
  refine lv_if_eq (tgt := 95) hx hb d_Model_wordFrom_90 (by decide) (fun c_4 => ?_) (fun c_4 => ?_)
  · replace hF := ifT hF c_4
    refine lv_iinc (v := (v3 + 1)) (lv' := [(3, .int (v3 + 1)), (0, .ref (ad 0)), (1, .int v1), (2, .int v2), (4, .int v4)]) hx hb d_Model_wordFrom_95 hl (k := 3) rfl rfl (by decide) rfl (fun ls hl => ?_)
    refine lv_goto (tgt := 2) hx hb d_Model_wordFrom_98 (by decide) ?_
    exact hk2 _ _ _ _ _ _  hw (lv_sub hl [1, 2, 3, 0] rfl) hF
  · replace hF := ifF hF c_4
    refine lv_iload_n hx hb d_Model_wordFrom_93 rfl (lv_at hl 3 rfl) ?_
    replace hF := sE1 hF
    subst hF
    exact r_iret K hw d_Model_wordFrom_94
noncomputable def F_Model_wordFrom_80 (s0 : St) (k2 : (Int32 → Int32 → Int32 → Option Int32)) (k16 : (Int32 → Int32 → Int32 → Int32 → Int32 → Option Int32)) (v1 : Int32) (v2 : Int32) (v3 : Int32) (v5 : Int32) (t0 : Int32) : Option Int32 := (k16 v1 v2 v3 t0 (v5 + 1))
set_option maxHeartbeats 4000000 in
set_option maxRecDepth 100000 in
theorem q_Model_wordFrom_80 (s0 : St) (K : Fx p s m args meth c b_Model_wordFrom 6 R_Model (some .int)) (k2 : (Int32 → Int32 → Int32 → Option Int32)) (hk2 : ∀ (H : Heap) (locs : List Loc) (ls : Array Slot) (v1 : Int32) (v2 : Int32) (v3 : Int32), Wh D cA ad shM A s s0 H locs → lv_has ls 6 [(0, .ref (ad 0)), (1, .int v1), (2, .int v2), (3, .int v3)] → k2 v1 v2 v3 = (some r) → W p l e rm_Model_wordFrom s m args below meth c H locs 0 0 (MQ below (QcI D cA ad shM A r s0) args s 0 0 A) (F0 m 2 ls [])) (k16 : (Int32 → Int32 → Int32 → Int32 → Int32 → Option Int32)) (hk16 : ∀ (H : Heap) (locs : List Loc) (ls : Array Slot) (v1 : Int32) (v2 : Int32) (v3 : Int32) (v4 : Int32) (v5 : Int32), Wh D cA ad shM A s s0 H locs → lv_has ls 6 [(0, .ref (ad 0)), (1, .int v1), (2, .int v2), (3, .int v3), (4, .int v4), (5, .int v5)] → k16 v1 v2 v3 v4 v5 = (some r) → W p l e rm_Model_wordFrom s m args below meth c H locs 0 0 (MQ below (QcI D cA ad shM A r s0) args s 0 0 A) (F0 m 26 ls [])) : ∀ (H : Heap) (locs : List Loc) (ls : Array Slot) (v1 : Int32) (v2 : Int32) (v3 : Int32) (v5 : Int32) (t0 : Int32), Wh D cA ad shM A s s0 H locs → lv_has ls 6 [(0, .ref (ad 0)), (1, .int v1), (2, .int v2), (3, .int v3), (5, .int v5)] → F_Model_wordFrom_80 s0 k2 k16 v1 v2 v3 v5 t0 = (some r) → W p l e rm_Model_wordFrom s m args below meth c H locs 0 0 (MQ below (QcI D cA ad shM A r s0) args s 0 0 A) (F0 m 80 ls [.int t0]) := by
  have hx := K.1.1; have hb := K.1.2.1
  intro H locs ls v1 v2 v3 v5 t0 hw hl hF
  unfold F_Model_wordFrom_80 at hF
  refine lv_istore (lv' := [(4, .int t0), (0, .ref (ad 0)), (1, .int v1), (2, .int v2), (3, .int v3), (5, .int v5)]) hx hb d_Model_wordFrom_80 hl (by decide) rfl (fun ls hl => ?_)
  refine lv_iinc (v := (v5 + 1)) (lv' := [(5, .int (v5 + 1)), (4, .int t0), (0, .ref (ad 0)), (1, .int v1), (2, .int v2), (3, .int v3)]) hx hb d_Model_wordFrom_82 hl (k := 5) rfl rfl (by decide) rfl (fun ls hl => ?_)
  refine lv_goto (tgt := 26) hx hb d_Model_wordFrom_85 (by decide) ?_
  exact hk16 _ _ _ _ _ _ _ _  hw (lv_sub hl [2, 3, 4, 5, 1, 0] rfl) hF
noncomputable def F_Model_wordFrom_72 (s0 : St) (k2 : (Int32 → Int32 → Int32 → Option Int32)) (k16 : (Int32 → Int32 → Int32 → Int32 → Int32 → Option Int32)) (v1 : Int32) (v2 : Int32) (v3 : Int32) (v5 : Int32) (t0 : Int32) (t1 : Int32) : Option Int32 := (if ¬ t0 = t1 then (F_Model_wordFrom_80 s0 k2 k16 v1 v2 v3 v5 (0 : Int32)) else (F_Model_wordFrom_80 s0 k2 k16 v1 v2 v3 v5 (1 : Int32)))
set_option maxHeartbeats 4000000 in
set_option maxRecDepth 100000 in
theorem q_Model_wordFrom_72 (s0 : St) (K : Fx p s m args meth c b_Model_wordFrom 6 R_Model (some .int)) (k2 : (Int32 → Int32 → Int32 → Option Int32)) (hk2 : ∀ (H : Heap) (locs : List Loc) (ls : Array Slot) (v1 : Int32) (v2 : Int32) (v3 : Int32), Wh D cA ad shM A s s0 H locs → lv_has ls 6 [(0, .ref (ad 0)), (1, .int v1), (2, .int v2), (3, .int v3)] → k2 v1 v2 v3 = (some r) → W p l e rm_Model_wordFrom s m args below meth c H locs 0 0 (MQ below (QcI D cA ad shM A r s0) args s 0 0 A) (F0 m 2 ls [])) (k16 : (Int32 → Int32 → Int32 → Int32 → Int32 → Option Int32)) (hk16 : ∀ (H : Heap) (locs : List Loc) (ls : Array Slot) (v1 : Int32) (v2 : Int32) (v3 : Int32) (v4 : Int32) (v5 : Int32), Wh D cA ad shM A s s0 H locs → lv_has ls 6 [(0, .ref (ad 0)), (1, .int v1), (2, .int v2), (3, .int v3), (4, .int v4), (5, .int v5)] → k16 v1 v2 v3 v4 v5 = (some r) → W p l e rm_Model_wordFrom s m args below meth c H locs 0 0 (MQ below (QcI D cA ad shM A r s0) args s 0 0 A) (F0 m 26 ls [])) : ∀ (H : Heap) (locs : List Loc) (ls : Array Slot) (v1 : Int32) (v2 : Int32) (v3 : Int32) (v5 : Int32) (t0 : Int32) (t1 : Int32), Wh D cA ad shM A s s0 H locs → lv_has ls 6 [(0, .ref (ad 0)), (1, .int v1), (2, .int v2), (3, .int v3), (5, .int v5)] → F_Model_wordFrom_72 s0 k2 k16 v1 v2 v3 v5 t0 t1 = (some r) → W p l e rm_Model_wordFrom s m args below meth c H locs 0 0 (MQ below (QcI D cA ad shM A r s0) args s 0 0 A) (F0 m 72 ls [.int t1, .int t0]) := by
  have hx := K.1.1; have hb := K.1.2.1
  intro H locs ls v1 v2 v3 v5 t0 t1 hw hl hF
  unfold F_Model_wordFrom_72 at hF
  refine lv_icmp_ne (tgt := 79) hx hb d_Model_wordFrom_72 (by decide) (fun c_8 => ?_) (fun c_8 => ?_)
  · replace hF := ifT hF c_8
    refine lv_iconst (v := 0) hx hb d_Model_wordFrom_79 (by decide) ?_
    exact q_Model_wordFrom_80 s0 K k2 hk2 k16 hk16 _ _ _ _ _ _ _ _  hw (lv_sub hl [0, 1, 2, 3, 4] rfl) hF
  · replace hF := ifN hF c_8
    refine lv_iconst (v := 1) hx hb d_Model_wordFrom_75 (by decide) ?_
    refine lv_goto (tgt := 80) hx hb d_Model_wordFrom_76 (by decide) ?_
    exact q_Model_wordFrom_80 s0 K k2 hk2 k16 hk16 _ _ _ _ _ _ _ _  hw (lv_sub hl [0, 1, 2, 3, 4] rfl) hF
noncomputable def F_Model_wordFrom_26 (s0 : St) (k2 : (Int32 → Int32 → Int32 → Option Int32)) : Nat → Int32 → Int32 → Int32 → Int32 → Int32 → Option Int32
  | 0, _, _, _, _, _ => none
  | n + 1, v1, v2, v3, v4, v5 => (if (8 : Int32) ≤ v5 then (F_Model_wordFrom_88 s0 k2 v1 v2 v3 v4) else (if v4 = 0 then (F_Model_wordFrom_88 s0 k2 v1 v2 v3 v4) else (if inB (((8 : Int32) * v3) + v5) 96 = true then (if v2 ≤ (v1 + v5) then (F_Model_wordFrom_72 s0 k2 (fun zv1 zv2 zv3 zv4 zv5 => F_Model_wordFrom_26 s0 k2 n zv1 zv2 zv3 zv4 zv5) v1 v2 v3 v5 (s0.1 15 (((8 : Int32) * v3) + v5).toNatClampNeg) (32 : Int32)) else (if inB (v1 + v5) 160 = true then (F_Model_wordFrom_72 s0 k2 (fun zv1 zv2 zv3 zv4 zv5 => F_Model_wordFrom_26 s0 k2 n zv1 zv2 zv3 zv4 zv5) v1 v2 v3 v5 (s0.1 15 (((8 : Int32) * v3) + v5).toNatClampNeg) (s0.1 6 (v1 + v5).toNatClampNeg)) else none)) else none)))
set_option maxHeartbeats 4000000 in
set_option maxRecDepth 100000 in
theorem q_Model_wordFrom_26 (s0 : St) (K : Fx p s m args meth c b_Model_wordFrom 6 R_Model (some .int)) (k2 : (Int32 → Int32 → Int32 → Option Int32)) (hk2 : ∀ (H : Heap) (locs : List Loc) (ls : Array Slot) (v1 : Int32) (v2 : Int32) (v3 : Int32), Wh D cA ad shM A s s0 H locs → lv_has ls 6 [(0, .ref (ad 0)), (1, .int v1), (2, .int v2), (3, .int v3)] → k2 v1 v2 v3 = (some r) → W p l e rm_Model_wordFrom s m args below meth c H locs 0 0 (MQ below (QcI D cA ad shM A r s0) args s 0 0 A) (F0 m 2 ls [])) : ∀ (n : Nat), ∀ (H : Heap) (locs : List Loc) (ls : Array Slot) (v1 : Int32) (v2 : Int32) (v3 : Int32) (v4 : Int32) (v5 : Int32), Wh D cA ad shM A s s0 H locs → lv_has ls 6 [(0, .ref (ad 0)), (1, .int v1), (2, .int v2), (3, .int v3), (4, .int v4), (5, .int v5)] → F_Model_wordFrom_26 s0 k2 n v1 v2 v3 v4 v5 = (some r) → W p l e rm_Model_wordFrom s m args below meth c H locs 0 0 (MQ below (QcI D cA ad shM A r s0) args s 0 0 A) (F0 m 26 ls []) := by
  have hx := K.1.1; have hb := K.1.2.1
  intro n
  induction n with
  | zero =>
    intro H locs ls v1 v2 v3 v4 v5 hw hl hF
    exact absurd hF (by rw [F_Model_wordFrom_26]; exact nofun)
  | succ n ih =>
    intro H locs ls v1 v2 v3 v4 v5 hw hl hF
    rw [F_Model_wordFrom_26] at hF
    refine lv_iload hx hb d_Model_wordFrom_26 (lv_at hl 5 rfl) ?_
    refine lv_bipush (v := 8) hx hb d_Model_wordFrom_28 (by decide) ?_
    refine lv_icmp_ge (tgt := 88) hx hb d_Model_wordFrom_30 (by decide) (fun c_3 => ?_) (fun c_3 => ?_)
    · replace hF := ifT hF c_3
      exact q_Model_wordFrom_88 s0 K k2 hk2 _ _ _ _ _ _ _  hw (lv_sub hl [0, 1, 2, 3, 4] rfl) hF
    · replace hF := ifF hF c_3
      refine lv_iload hx hb d_Model_wordFrom_33 (lv_at hl 4 rfl) ?_
      refine lv_if_eq (tgt := 88) hx hb d_Model_wordFrom_35 (by decide) (fun c_5 => ?_) (fun c_5 => ?_)
      · replace hF := ifT hF c_5
        exact q_Model_wordFrom_88 s0 K k2 hk2 _ _ _ _ _ _ _  hw (lv_sub hl [0, 1, 2, 3, 4] rfl) hF
      · replace hF := ifF hF c_5
        refine lv_aload_n hx hb d_Model_wordFrom_38 rfl (lv_at hl 0 rfl) ?_
        refine r_get (v := .ref (ad 15)) K hw i_Model sh_Model rfl 25 (by decide) w_1050 rfl rfl rfl d_Model_wordFrom_39 ?_
        refine lv_bipush (v := 8) hx hb d_Model_wordFrom_42 (by decide) ?_
        refine lv_iload_n hx hb d_Model_wordFrom_44 rfl (lv_at hl 3 rfl) ?_
        refine lv_imul hx hb d_Model_wordFrom_45 ?_
        refine lv_iload hx hb d_Model_wordFrom_46 (lv_at hl 5 rfl) ?_
        refine lv_iadd hx hb d_Model_wordFrom_48 ?_
        obtain ⟨g_6, hF⟩ := ifG hF
        refine r_iald (k := (((8 : Int32) * v3) + v5).toNatClampNeg) K hw (show shM[15]? = some (.inr (.inl 96)) from rfl) rfl (inB_vp g_6) d_Model_wordFrom_49 ?_
        refine lv_iload_n hx hb d_Model_wordFrom_50 rfl (lv_at hl 1 rfl) ?_
        refine lv_iload hx hb d_Model_wordFrom_51 (lv_at hl 5 rfl) ?_
        refine lv_iadd hx hb d_Model_wordFrom_53 ?_
        refine lv_iload_n hx hb d_Model_wordFrom_54 rfl (lv_at hl 2 rfl) ?_
        refine lv_icmp_ge (tgt := 70) hx hb d_Model_wordFrom_55 (by decide) (fun c_7 => ?_) (fun c_7 => ?_)
        · replace hF := ifT hF c_7
          refine lv_bipush (v := 32) hx hb d_Model_wordFrom_70 (by decide) ?_
          exact q_Model_wordFrom_72 s0 K k2 hk2 (fun zv1 zv2 zv3 zv4 zv5 => F_Model_wordFrom_26 s0 k2 n zv1 zv2 zv3 zv4 zv5) ih _ _ _ _ _ _ _ _ _  hw (lv_sub hl [0, 1, 2, 3, 5] rfl) hF
        · replace hF := ifF hF c_7
          refine lv_aload_n hx hb d_Model_wordFrom_58 rfl (lv_at hl 0 rfl) ?_
          refine r_get (v := .ref (ad 6)) K hw i_Model sh_Model rfl 6 (by decide) w_1031 rfl rfl rfl d_Model_wordFrom_59 ?_
          refine lv_iload_n hx hb d_Model_wordFrom_62 rfl (lv_at hl 1 rfl) ?_
          refine lv_iload hx hb d_Model_wordFrom_63 (lv_at hl 5 rfl) ?_
          refine lv_iadd hx hb d_Model_wordFrom_65 ?_
          obtain ⟨g_9, hF⟩ := ifG hF
          refine r_iald (k := (v1 + v5).toNatClampNeg) K hw (show shM[6]? = some (.inr (.inl 160)) from rfl) rfl (inB_vp g_9) d_Model_wordFrom_66 ?_
          refine lv_goto (tgt := 72) hx hb d_Model_wordFrom_67 (by decide) ?_
          exact q_Model_wordFrom_72 s0 K k2 hk2 (fun zv1 zv2 zv3 zv4 zv5 => F_Model_wordFrom_26 s0 k2 n zv1 zv2 zv3 zv4 zv5) ih _ _ _ _ _ _ _ _ _  hw (lv_sub hl [0, 1, 2, 3, 5] rfl) hF
noncomputable def F_Model_wordFrom_21 (s0 : St) (k2 : (Int32 → Int32 → Int32 → Option Int32)) (v1 : Int32) (v2 : Int32) (v3 : Int32) (t0 : Int32) : Option Int32 := (F_Model_wordFrom_26 s0 k2 FU v1 v2 v3 t0 (0 : Int32))
set_option maxHeartbeats 4000000 in
set_option maxRecDepth 100000 in
theorem q_Model_wordFrom_21 (s0 : St) (K : Fx p s m args meth c b_Model_wordFrom 6 R_Model (some .int)) (k2 : (Int32 → Int32 → Int32 → Option Int32)) (hk2 : ∀ (H : Heap) (locs : List Loc) (ls : Array Slot) (v1 : Int32) (v2 : Int32) (v3 : Int32), Wh D cA ad shM A s s0 H locs → lv_has ls 6 [(0, .ref (ad 0)), (1, .int v1), (2, .int v2), (3, .int v3)] → k2 v1 v2 v3 = (some r) → W p l e rm_Model_wordFrom s m args below meth c H locs 0 0 (MQ below (QcI D cA ad shM A r s0) args s 0 0 A) (F0 m 2 ls [])) : ∀ (H : Heap) (locs : List Loc) (ls : Array Slot) (v1 : Int32) (v2 : Int32) (v3 : Int32) (t0 : Int32), Wh D cA ad shM A s s0 H locs → lv_has ls 6 [(0, .ref (ad 0)), (1, .int v1), (2, .int v2), (3, .int v3)] → F_Model_wordFrom_21 s0 k2 v1 v2 v3 t0 = (some r) → W p l e rm_Model_wordFrom s m args below meth c H locs 0 0 (MQ below (QcI D cA ad shM A r s0) args s 0 0 A) (F0 m 21 ls [.int t0]) := by
  have hx := K.1.1; have hb := K.1.2.1
  intro H locs ls v1 v2 v3 t0 hw hl hF
  unfold F_Model_wordFrom_21 at hF
  refine lv_istore (lv' := [(4, .int t0), (0, .ref (ad 0)), (1, .int v1), (2, .int v2), (3, .int v3)]) hx hb d_Model_wordFrom_21 hl (by decide) rfl (fun ls hl => ?_)
  refine lv_iconst (v := 0) hx hb d_Model_wordFrom_23 (by decide) ?_
  refine lv_istore (lv' := [(5, .int (0 : Int32)), (4, .int t0), (0, .ref (ad 0)), (1, .int v1), (2, .int v2), (3, .int v3)]) hx hb d_Model_wordFrom_24 hl (by decide) rfl (fun ls hl => ?_)
  exact q_Model_wordFrom_26 s0 K k2 hk2 FU _ _ _ _ _ _ _ _  hw (lv_sub hl [2, 3, 4, 5, 1, 0] rfl) hF
noncomputable def F_Model_wordFrom_2 (s0 : St) : Nat → Int32 → Int32 → Int32 → Option Int32
  | 0, _, _, _ => none
  | n + 1, v1, v2, v3 => (if (12 : Int32) ≤ v3 then (some (12 : Int32)) else (if (8 : Int32) < (v2 - v1) then (F_Model_wordFrom_21 s0 (fun zv1 zv2 zv3 => F_Model_wordFrom_2 s0 n zv1 zv2 zv3) v1 v2 v3 (0 : Int32)) else (F_Model_wordFrom_21 s0 (fun zv1 zv2 zv3 => F_Model_wordFrom_2 s0 n zv1 zv2 zv3) v1 v2 v3 (1 : Int32))))
set_option maxHeartbeats 4000000 in
set_option maxRecDepth 100000 in
theorem q_Model_wordFrom_2 (s0 : St) (K : Fx p s m args meth c b_Model_wordFrom 6 R_Model (some .int))  : ∀ (n : Nat), ∀ (H : Heap) (locs : List Loc) (ls : Array Slot) (v1 : Int32) (v2 : Int32) (v3 : Int32), Wh D cA ad shM A s s0 H locs → lv_has ls 6 [(0, .ref (ad 0)), (1, .int v1), (2, .int v2), (3, .int v3)] → F_Model_wordFrom_2 s0 n v1 v2 v3 = (some r) → W p l e rm_Model_wordFrom s m args below meth c H locs 0 0 (MQ below (QcI D cA ad shM A r s0) args s 0 0 A) (F0 m 2 ls []) := by
  have hx := K.1.1; have hb := K.1.2.1
  intro n
  induction n with
  | zero =>
    intro H locs ls v1 v2 v3 hw hl hF
    exact absurd hF (by rw [F_Model_wordFrom_2]; exact nofun)
  | succ n ih =>
    intro H locs ls v1 v2 v3 hw hl hF
    rw [F_Model_wordFrom_2] at hF
    refine lv_iload_n hx hb d_Model_wordFrom_2 rfl (lv_at hl 3 rfl) ?_
    refine lv_bipush (v := 12) hx hb d_Model_wordFrom_3 (by decide) ?_
    refine lv_icmp_ge (tgt := 101) hx hb d_Model_wordFrom_5 (by decide) (fun c_1 => ?_) (fun c_1 => ?_)
    · replace hF := ifT hF c_1
      refine lv_bipush (v := 12) hx hb d_Model_wordFrom_101 (by decide) ?_
      replace hF := sE1 hF
      subst hF
      exact r_iret K hw d_Model_wordFrom_103
    · replace hF := ifF hF c_1
      refine lv_iload_n hx hb d_Model_wordFrom_8 rfl (lv_at hl 2 rfl) ?_
      refine lv_iload_n hx hb d_Model_wordFrom_9 rfl (lv_at hl 1 rfl) ?_
      refine lv_isub hx hb d_Model_wordFrom_10 ?_
      refine lv_bipush (v := 8) hx hb d_Model_wordFrom_11 (by decide) ?_
      refine lv_icmp_gt (tgt := 20) hx hb d_Model_wordFrom_13 (by decide) (fun c_2 => ?_) (fun c_2 => ?_)
      · replace hF := ifT hF c_2
        refine lv_iconst (v := 0) hx hb d_Model_wordFrom_20 (by decide) ?_
        exact q_Model_wordFrom_21 s0 K (fun zv1 zv2 zv3 => F_Model_wordFrom_2 s0 n zv1 zv2 zv3) ih _ _ _ _ _ _ _  hw (lv_sub hl [0, 1, 2, 3] rfl) hF
      · replace hF := ifF hF c_2
        refine lv_iconst (v := 1) hx hb d_Model_wordFrom_16 (by decide) ?_
        refine lv_goto (tgt := 21) hx hb d_Model_wordFrom_17 (by decide) ?_
        exact q_Model_wordFrom_21 s0 K (fun zv1 zv2 zv3 => F_Model_wordFrom_2 s0 n zv1 zv2 zv3) ih _ _ _ _ _ _ _  hw (lv_sub hl [0, 1, 2, 3] rfl) hF
noncomputable def F_Model_wordFrom_0 (s0 : St) (v1 : Int32) (v2 : Int32) : Option Int32 := (F_Model_wordFrom_2 s0 FU v1 v2 (0 : Int32))
set_option maxHeartbeats 4000000 in
set_option maxRecDepth 100000 in
theorem q_Model_wordFrom_0 (s0 : St) (K : Fx p s m args meth c b_Model_wordFrom 6 R_Model (some .int))  : ∀ (H : Heap) (locs : List Loc) (ls : Array Slot) (v1 : Int32) (v2 : Int32), Wh D cA ad shM A s s0 H locs → lv_has ls 6 [(0, .ref (ad 0)), (1, .int v1), (2, .int v2)] → F_Model_wordFrom_0 s0 v1 v2 = (some r) → W p l e rm_Model_wordFrom s m args below meth c H locs 0 0 (MQ below (QcI D cA ad shM A r s0) args s 0 0 A) (F0 m 0 ls []) := by
  have hx := K.1.1; have hb := K.1.2.1
  intro H locs ls v1 v2 hw hl hF
  unfold F_Model_wordFrom_0 at hF
  refine lv_iconst (v := 0) hx hb d_Model_wordFrom_0 (by decide) ?_
  refine lv_istore_n (lv' := [(3, .int (0 : Int32)), (0, .ref (ad 0)), (1, .int v1), (2, .int v2)]) hx hb d_Model_wordFrom_1 rfl hl (by decide) rfl (fun ls hl => ?_)
  exact q_Model_wordFrom_2 s0 K FU _ _ _ _ _ _  hw (lv_sub hl [1, 2, 3, 0] rfl) hF
end S_Model_wordFrom
noncomputable abbrev F_Model_wordFrom := F_Model_wordFrom_0
theorem c_Model_wordFrom {l : Launch} {D : va_G} {cA : Nat → ClassId} {ad : Nat → Nat} {s0 : St} {r : Int32} {v1 : Int32} {v2 : Int32}  (hF : F_Model_wordFrom s0 v1 v2 = (some r)) : MI l D cA ad shM y_Model_wordFrom (wT y_Model_wordFrom b_Model_wordFrom 6 (some .int)) rm_Model_wordFrom [.ref (ad 0), .int v1, .int v2] s0 r s0 := fun sz => m_start (Qc := fun A => QcI D cA ad shM A r s0) (by decide +kernel) w_992 (Nat.le_of_ble_eq_true rfl) (fun p e s m below meth c ls K hl hw => q_Model_wordFrom_0 s0 K _ _ _ _ _  hw hl hF)
