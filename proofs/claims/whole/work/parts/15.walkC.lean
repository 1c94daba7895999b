/-! Main.areTwo(II)Z -/
abbrev b_Main_areTwo : ByteArray := prog_1_method_42_code
def y_Main_areTwo : MethodName := ⟨R_Main, "areTwo", "(II)Z"⟩
theorem a_Main_areTwo : y_Main_areTwo.cls = R_Main ∧ y_Main_areTwo.cls ≠ "java/lang/invoke/MethodHandle" ∧ y_Main_areTwo.cls ≠ "java/lang/invoke/VarHandle" ∧ (parseMethodDescriptor y_Main_areTwo.desc).map (fun d => d.parameters.length) = some 2 := by decide +kernel
abbrev rm_Main_areTwo : Room := { frames := 2, cells := 0, slots := 0, locals := 43 }
theorem w_727 : Cond.code y_Main_areTwo b_Main_areTwo 3 (some .boolean) ∈ TB := tb_in 727 (by decide +kernel) (by decide +kernel)
theorem d_Main_areTwo_0 : decode b_Main_areTwo 0 = .ok (.aload_n 0, 1) := by decide +kernel
theorem d_Main_areTwo_1 : decode b_Main_areTwo 1 = .ok (.iload_n 1, 1) := by decide +kernel
theorem d_Main_areTwo_2 : decode b_Main_areTwo 2 = .ok (.invokevirtual 120, 3) := by decide +kernel
theorem d_Main_areTwo_5 : decode b_Main_areTwo 5 = .ok (.ifCond .eq 20, 3) := by decide +kernel
theorem d_Main_areTwo_8 : decode b_Main_areTwo 8 = .ok (.aload_n 0, 1) := by decide +kernel
theorem d_Main_areTwo_9 : decode b_Main_areTwo 9 = .ok (.iload_n 2, 1) := by decide +kernel
theorem d_Main_areTwo_10 : decode b_Main_areTwo 10 = .ok (.invokevirtual 120, 3) := by decide +kernel
theorem d_Main_areTwo_13 : decode b_Main_areTwo 13 = .ok (.ifCond .eq 12, 3) := by decide +kernel
theorem d_Main_areTwo_16 : decode b_Main_areTwo 16 = .ok (.iload_n 1, 1) := by decide +kernel
theorem d_Main_areTwo_17 : decode b_Main_areTwo 17 = .ok (.iload_n 2, 1) := by decide +kernel
theorem d_Main_areTwo_18 : decode b_Main_areTwo 18 = .ok (.if_icmp .eq 7, 3) := by decide +kernel
theorem d_Main_areTwo_21 : decode b_Main_areTwo 21 = .ok (.iconst 1, 1) := by decide +kernel
theorem d_Main_areTwo_22 : decode b_Main_areTwo 22 = .ok (.goto 4, 3) := by decide +kernel
theorem d_Main_areTwo_25 : decode b_Main_areTwo 25 = .ok (.iconst 0, 1) := by decide +kernel
theorem d_Main_areTwo_26 : decode b_Main_areTwo 26 = .ok (.ireturn, 1) := by decide +kernel
section S_Main_areTwo
variable {p : Program} {l : Launch} {e : Env} {s : State} {m : MethodId} {args : Array Value} {below : List Frame} {meth : Method} {c : Code} {D : va_G} {cA : Nat → ClassId} {ad : Nat → Nat} {A : Nat → Prop} {r : Int32} {τ : St}
def F_Main_areTwo_0 (s0 : St) (v1 : Int32) (v2 : Int32) : Option Int32 := (ob1 (F_Main_isArm s0 v1) (fun r_1 => (if r_1 = 0 then (some (0 : Int32)) else (ob1 (F_Main_isArm s0 v2) (fun r_3 => (if r_3 = 0 then (some (0 : Int32)) else (if v1 = v2 then (some (0 : Int32)) else (some (1 : Int32)))))))))
set_option maxHeartbeats 4000000 in
set_option maxRecDepth 100000 in
theorem q_Main_areTwo_0 (s0 : St) (K : Fx p s m args meth c b_Main_areTwo 3 R_Main (some .boolean))  : ∀ (H : Heap) (locs : List Loc) (ls : Array Slot) (v1 : Int32) (v2 : Int32), Wh D cA ad shC A s s0 H locs → lv_has ls 3 [(0, .ref (ad 0)), (1, .int v1), (2, .int v2)] → F_Main_areTwo_0 s0 v1 v2 = (some r) → W p l e rm_Main_areTwo s m args below meth c H locs 0 0 (MQ below (QcI D cA ad shC A r s0) args s 0 0 A) (F0 m 0 ls []) := by
  have hx := K.1.1; have hb := K.1.2.1
  intro H locs ls v1 v2 hw hl hF
  unfold F_Main_areTwo_0 at hF
  refine lv_aload_n hx hb d_Main_areTwo_0 rfl (lv_at hl 0 rfl) ?_
  refine lv_iload_n hx hb d_Main_areTwo_1 rfl (lv_at hl 1 rfl) ?_
  obtain ⟨r_1, h_r_1, hF⟩ := ob1E hF
  refine r_callVI (As := [.int v1]) (rest := []) K hw hl.1 (c_Main_isArm (l := l) (D := D) (cA := cA) (ad := ad) (s0 := s0)  h_r_1) sh_Main rfl (tb_gV w_656 w_658 w_13 w_63 w_659) a_Main_isArm ⟨rfl, rfl, Nat.le_of_ble_eq_true rfl, Nat.le_of_ble_eq_true rfl⟩ rfl rfl (Nat.le_of_ble_eq_true rfl) d_Main_areTwo_2 (fun H locs hw => ?_)
  refine lv_if_eq (tgt := 25) hx hb d_Main_areTwo_5 (by decide) (fun c_2 => ?_) (fun c_2 => ?_)
  · replace hF := ifT hF c_2
    refine lv_iconst (v := 0) hx hb d_Main_areTwo_25 (by decide) ?_
    replace hF := sE1 hF
    subst hF
    exact r_zret K hw (by decide) d_Main_areTwo_26
  · replace hF := ifF hF c_2
    refine lv_aload_n hx hb d_Main_areTwo_8 rfl (lv_at hl 0 rfl) ?_
    refine lv_iload_n hx hb d_Main_areTwo_9 rfl (lv_at hl 2 rfl) ?_
    obtain ⟨r_3, h_r_3, hF⟩ := ob1E hF
    refine r_callVI (As := [.int v2]) (rest := []) K hw hl.1 (c_Main_isArm (l := l) (D := D) (cA := cA) (ad := ad) (s0 := s0)  h_r_3) sh_Main rfl (tb_gV w_656 w_658 w_13 w_63 w_659) a_Main_isArm ⟨rfl, rfl, Nat.le_of_ble_eq_true rfl, Nat.le_of_ble_eq_true rfl⟩ rfl rfl (Nat.le_of_ble_eq_true rfl) d_Main_areTwo_10 (fun H locs hw => ?_)
    refine lv_if_eq (tgt := 25) hx hb d_Main_areTwo_13 (by decide) (fun c_4 => ?_) (fun c_4 => ?_)
    · replace hF := ifT hF c_4
      refine lv_iconst (v := 0) hx hb d_Main_areTwo_25 (by decide) ?_
      replace hF := sE1 hF
      subst hF
      exact r_zret K hw (by decide) d_Main_areTwo_26
    · replace hF := ifF hF c_4
      refine lv_iload_n hx hb d_Main_areTwo_16 rfl (lv_at hl 1 rfl) ?_
      refine lv_iload_n hx hb d_Main_areTwo_17 rfl (lv_at hl 2 rfl) ?_
      refine lv_icmp_eq (tgt := 25) hx hb d_Main_areTwo_18 (by decide) (fun c_5 => ?_) (fun c_5 => ?_)
      · replace hF := ifT hF c_5
        refine lv_iconst (v := 0) hx hb d_Main_areTwo_25 (by decide) ?_
        replace hF := sE1 hF
        subst hF
        exact r_zret K hw (by decide) d_Main_areTwo_26
      · replace hF := ifF hF c_5
        refine lv_iconst (v := 1) hx hb d_Main_areTwo_21 (by decide) ?_
        refine lv_goto (tgt := 26) hx hb d_Main_areTwo_22 (by decide) ?_
        replace hF := sE1 hF
        subst hF
        exact r_zret K hw (by decide) d_Main_areTwo_26
end S_Main_areTwo
abbrev F_Main_areTwo := F_Main_areTwo_0
theorem c_Main_areTwo {l : Launch} {D : va_G} {cA : Nat → ClassId} {ad : Nat → Nat} {s0 : St} {r : Int32} {v1 : Int32} {v2 : Int32}  (hF : F_Main_areTwo s0 v1 v2 = (some r)) : MI l D cA ad shC y_Main_areTwo (wT y_Main_areTwo b_Main_areTwo 3 (some .boolean)) rm_Main_areTwo [.ref (ad 0), .int v1, .int v2] s0 r s0 := fun sz => m_start (Qc := fun A => QcI D cA ad shC A r s0) (by decide +kernel) w_727 (Nat.le_of_ble_eq_true rfl) (fun p e s m below meth c ls K hl hw => q_Main_areTwo_0 s0 K _ _ _ _ _  hw hl hF)

/-! Main.tellsTwo(I)Z -/
abbrev b_Main_tellsTwo : ByteArray := prog_1_method_43_code
def y_Main_tellsTwo : MethodName := ⟨R_Main, "tellsTwo", "(I)Z"⟩
theorem a_Main_tellsTwo : y_Main_tellsTwo.cls = R_Main ∧ y_Main_tellsTwo.cls ≠ "java/lang/invoke/MethodHandle" ∧ y_Main_tellsTwo.cls ≠ "java/lang/invoke/VarHandle" ∧ (parseMethodDescriptor y_Main_tellsTwo.desc).map (fun d => d.parameters.length) = some 1 := by decide +kernel
abbrev rm_Main_tellsTwo : Room := { frames := 3, cells := 0, slots := 0, locals := 65 }
theorem w_724 : Cond.methodLink R_Main 194 y_Main_areTwo ∈ TB := tb_in 724 (by decide +kernel) (by decide +kernel)
theorem w_726 : Cond.instanceMethod y_Main_areTwo ∈ TB := tb_in 726 (by decide +kernel) (by decide +kernel)
theorem w_17 : Cond.selects R_Main y_Main_areTwo y_Main_areTwo ∈ TB := tb_in 17 (by decide +kernel) (by decide +kernel)
theorem w_723 : Cond.code y_Main_tellsTwo b_Main_tellsTwo 2 (some .boolean) ∈ TB := tb_in 723 (by decide +kernel) (by decide +kernel)
theorem d_Main_tellsTwo_0 : decode b_Main_tellsTwo 0 = .ok (.iload_n 1, 1) := by decide +kernel
theorem d_Main_tellsTwo_1 : decode b_Main_tellsTwo 1 = .ok (.ifCond .lt 22, 3) := by decide +kernel
theorem d_Main_tellsTwo_4 : decode b_Main_tellsTwo 4 = .ok (.aload_n 0, 1) := by decide +kernel
theorem d_Main_tellsTwo_5 : decode b_Main_tellsTwo 5 = .ok (.iload_n 1, 1) := by decide +kernel
theorem d_Main_tellsTwo_6 : decode b_Main_tellsTwo 6 = .ok (.bipush 10, 2) := by decide +kernel
theorem d_Main_tellsTwo_8 : decode b_Main_tellsTwo 8 = .ok (.idiv, 1) := by decide +kernel
theorem d_Main_tellsTwo_9 : decode b_Main_tellsTwo 9 = .ok (.iload_n 1, 1) := by decide +kernel
theorem d_Main_tellsTwo_10 : decode b_Main_tellsTwo 10 = .ok (.bipush 10, 2) := by decide +kernel
theorem d_Main_tellsTwo_12 : decode b_Main_tellsTwo 12 = .ok (.irem, 1) := by decide +kernel
theorem d_Main_tellsTwo_13 : decode b_Main_tellsTwo 13 = .ok (.invokevirtual 194, 3) := by decide +kernel
theorem d_Main_tellsTwo_16 : decode b_Main_tellsTwo 16 = .ok (.ifCond .eq 7, 3) := by decide +kernel
theorem d_Main_tellsTwo_19 : decode b_Main_tellsTwo 19 = .ok (.iconst 1, 1) := by decide +kernel
theorem d_Main_tellsTwo_20 : decode b_Main_tellsTwo 20 = .ok (.goto 4, 3) := by decide +kernel
theorem d_Main_tellsTwo_23 : decode b_Main_tellsTwo 23 = .ok (.iconst 0, 1) := by decide +kernel
theorem d_Main_tellsTwo_24 : decode b_Main_tellsTwo 24 = .ok (.ireturn, 1) := by decide +kernel
section S_Main_tellsTwo
variable {p : Program} {l : Launch} {e : Env} {s : State} {m : MethodId} {args : Array Value} {below : List Frame} {meth : Method} {c : Code} {D : va_G} {cA : Nat → ClassId} {ad : Nat → Nat} {A : Nat → Prop} {r : Int32} {τ : St}
def F_Main_tellsTwo_0 (s0 : St) (v1 : Int32) : Option Int32 := (if v1 < 0 then (some (0 : Int32)) else (ob1 (F_Main_areTwo s0 (v1 / (10 : Int32)) (jrem v1 (10 : Int32))) (fun r_2 => (if r_2 = 0 then (some (0 : Int32)) else (some (1 : Int32))))))
set_option maxHeartbeats 4000000 in
set_option maxRecDepth 100000 in
theorem q_Main_tellsTwo_0 (s0 : St) (K : Fx p s m args meth c b_Main_tellsTwo 2 R_Main (some .boolean))  : ∀ (H : Heap) (locs : List Loc) (ls : Array Slot) (v1 : Int32), Wh D cA ad shC A s s0 H locs → lv_has ls 2 [(0, .ref (ad 0)), (1, .int v1)] → F_Main_tellsTwo_0 s0 v1 = (some r) → W p l e rm_Main_tellsTwo s m args below meth c H locs 0 0 (MQ below (QcI D cA ad shC A r s0) args s 0 0 A) (F0 m 0 ls []) := by
  have hx := K.1.1; have hb := K.1.2.1
  intro H locs ls v1 hw hl hF
  unfold F_Main_tellsTwo_0 at hF
  refine lv_iload_n hx hb d_Main_tellsTwo_0 rfl (lv_at hl 1 rfl) ?_
  refine lv_if_lt (tgt := 23) hx hb d_Main_tellsTwo_1 (by decide) (fun c_1 => ?_) (fun c_1 => ?_)
  · replace hF := ifT hF c_1
    refine lv_iconst (v := 0) hx hb d_Main_tellsTwo_23 (by decide) ?_
    replace hF := sE1 hF
    subst hF
    exact r_zret K hw (by decide) d_Main_tellsTwo_24
  · replace hF := ifF hF c_1
    refine lv_aload_n hx hb d_Main_tellsTwo_4 rfl (lv_at hl 0 rfl) ?_
    refine lv_iload_n hx hb d_Main_tellsTwo_5 rfl (lv_at hl 1 rfl) ?_
    refine lv_bipush (v := 10) hx hb d_Main_tellsTwo_6 (by decide) ?_
    refine lv_idiv hx hb d_Main_tellsTwo_8 (by decide) ?_
    refine lv_iload_n hx hb d_Main_tellsTwo_9 rfl (lv_at hl 1 rfl) ?_
    refine lv_bipush (v := 10) hx hb d_Main_tellsTwo_10 (by decide) ?_
    refine lv_irem hx hb d_Main_tellsTwo_12 (by decide) ?_
    obtain ⟨r_2, h_r_2, hF⟩ := ob1E hF
    refine r_callVI (As := [.int (v1 / (10 : Int32)), .int (jrem v1 (10 : Int32))]) (rest := []) K hw hl.1 (c_Main_areTwo (l := l) (D := D) (cA := cA) (ad := ad) (s0 := s0)  h_r_2) sh_Main rfl (tb_gV w_724 w_726 w_17 w_63 w_727) a_Main_areTwo ⟨rfl, rfl, Nat.le_of_ble_eq_true rfl, Nat.le_of_ble_eq_true rfl⟩ rfl rfl (Nat.le_of_ble_eq_true rfl) d_Main_tellsTwo_13 (fun H locs hw => ?_)
    refine lv_if_eq (tgt := 23) hx hb d_Main_tellsTwo_16 (by decide) (fun c_3 => ?_) (fun c_3 => ?_)
    · replace hF := ifT hF c_3
      refine lv_iconst (v := 0) hx hb d_Main_tellsTwo_23 (by decide) ?_
      replace hF := sE1 hF
      subst hF
      exact r_zret K hw (by decide) d_Main_tellsTwo_24
    · replace hF := ifF hF c_3
      refine lv_iconst (v := 1) hx hb d_Main_tellsTwo_19 (by decide) ?_
      refine lv_goto (tgt := 24) hx hb d_Main_tellsTwo_20 (by decide) ?_
      replace hF := sE1 hF
      subst hF
      exact r_zret K hw (by decide) d_Main_tellsTwo_24
end S_Main_tellsTwo
abbrev F_Main_tellsTwo := F_Main_tellsTwo_0
theorem c_Main_tellsTwo {l : Launch} {D : va_G} {cA : Nat → ClassId} {ad : Nat → Nat} {s0 : St} {r : Int32} {v1 : Int32}  (hF : F_Main_tellsTwo s0 v1 = (some r)) : MI l D cA ad shC y_Main_tellsTwo (wT y_Main_tellsTwo b_Main_tellsTwo 2 (some .boolean)) rm_Main_tellsTwo [.ref (ad 0), .int v1] s0 r s0 := fun sz => m_start (Qc := fun A => QcI D cA ad shC A r s0) (by decide +kernel) w_723 (Nat.le_of_ble_eq_true rfl) (fun p e s m below meth c ls K hl hw => q_Main_tellsTwo_0 s0 K _ _ _ _  hw hl hF)

/-! Bout.isOver()Z -/
abbrev b_Bout_isOver : ByteArray := prog_3_method_3_code
def y_Bout_isOver : MethodName := ⟨R_Bout, "isOve\x72", "()Z"⟩
theorem a_Bout_isOver : y_Bout_isOver.cls = R_Bout ∧ y_Bout_isOver.cls ≠ "java/lang/invoke/MethodHandle" ∧ y_Bout_isOver.cls ≠ "java/lang/invoke/VarHandle" ∧ (parseMethodDescriptor y_Bout_isOver.desc).map (fun d => d.parameters.length) = some 0 := by decide +kernel
abbrev rm_Bout_isOver : Room := { frames := 0, cells := 0, slots := 0, locals := 0 }
theorem w_744 : Cond.code y_Bout_isOver b_Bout_isOver 1 (some .boolean) ∈ TB := tb_in 744 (by decide +kernel) (by decide +kernel)
theorem d_Bout_isOver_0 : decode b_Bout_isOver 0 = .ok (.aload_n 0, 1) := by decide +kernel
theorem d_Bout_isOver_1 : decode b_Bout_isOver 1 = .ok (.getfield 30, 3) := by decide +kernel
theorem d_Bout_isOver_4 : decode b_Bout_isOver 4 = .ok (.bipush (-30), 2) := by decide +kernel
theorem d_Bout_isOver_6 : decode b_Bout_isOver 6 = .ok (.if_icmp .le 12, 3) := by decide +kernel
theorem d_Bout_isOver_9 : decode b_Bout_isOver 9 = .ok (.aload_n 0, 1) := by decide +kernel
theorem d_Bout_isOver_10 : decode b_Bout_isOver 10 = .ok (.getfield 30, 3) := by decide +kernel
theorem d_Bout_isOver_13 : decode b_Bout_isOver 13 = .ok (.bipush 30, 2) := by decide +kernel
theorem d_Bout_isOver_15 : decode b_Bout_isOver 15 = .ok (.if_icmp .lt 7, 3) := by decide +kernel
theorem d_Bout_isOver_18 : decode b_Bout_isOver 18 = .ok (.iconst 1, 1) := by decide +kernel
theorem d_Bout_isOver_19 : decode b_Bout_isOver 19 = .ok (.goto 4, 3) := by decide +kernel
theorem d_Bout_isOver_22 : decode b_Bout_isOver 22 = .ok (.iconst 0, 1) := by decide +kernel
theorem d_Bout_isOver_23 : decode b_Bout_isOver 23 = .ok (.ireturn, 1) := by decide +kernel
section S_Bout_isOver
variable {p : Program} {l : Launch} {e : Env} {s : State} {m : MethodId} {args : Array Value} {below : List Frame} {meth : Method} {c : Code} {D : va_G} {cA : Nat → ClassId} {ad : Nat → Nat} {A : Nat → Prop} {r : Int32} {τ : St}
def F_Bout_isOver_0 (s0 : St) : Int32 := (if (s0.1 11 3) ≤ (-30 : Int32) then (1 : Int32) else (if (s0.1 11 3) < (30 : Int32) then (0 : Int32) else (1 : Int32)))
set_option maxHeartbeats 4000000 in
set_option maxRecDepth 100000 in
theorem q_Bout_isOver_0 (s0 : St) (K : Fx p s m args meth c b_Bout_isOver 1 R_Bout (some .boolean))  : ∀ (H : Heap) (locs : List Loc) (ls : Array Slot), Wh D cA ad shC A s s0 H locs → lv_has ls 1 [(0, .ref (ad 11))] → F_Bout_isOver_0 s0  = r → W p l e rm_Bout_isOver s m args below meth c H locs 0 0 (MQ below (QcI D cA ad shC A r s0) args s 0 0 A) (F0 m 0 ls []) := by
  have hx := K.1.1; have hb := K.1.2.1
  intro H locs ls  hw hl hF
  unfold F_Bout_isOver_0 at hF
  refine lv_aload_n hx hb d_Bout_isOver_0 rfl (lv_at hl 0 rfl) ?_
  refine r_get (v := .int (s0.1 11 3)) K hw i_Bout sh_Bout rfl 3 (by decide) w_538 rfl rfl rfl d_Bout_isOver_1 ?_
  refine lv_bipush (v := -30) hx hb d_Bout_isOver_4 (by decide) ?_
  refine lv_icmp_le (tgt := 18) hx hb d_Bout_isOver_6 (by decide) (fun c_1 => ?_) (fun c_1 => ?_)
  · replace hF := ifT hF c_1
    refine lv_iconst (v := 1) hx hb d_Bout_isOver_18 (by decide) ?_
    refine lv_goto (tgt := 23) hx hb d_Bout_isOver_19 (by decide) ?_
    subst hF
    exact r_zret K hw (by decide) d_Bout_isOver_23
  · replace hF := ifF hF c_1
    refine lv_aload_n hx hb d_Bout_isOver_9 rfl (lv_at hl 0 rfl) ?_
    refine r_get (v := .int (s0.1 11 3)) K hw i_Bout sh_Bout rfl 3 (by decide) w_538 rfl rfl rfl d_Bout_isOver_10 ?_
    refine lv_bipush (v := 30) hx hb d_Bout_isOver_13 (by decide) ?_
    refine lv_icmp_lt (tgt := 22) hx hb d_Bout_isOver_15 (by decide) (fun c_2 => ?_) (fun c_2 => ?_)
    · replace hF := ifT hF c_2
      refine lv_iconst (v := 0) hx hb d_Bout_isOver_22 (by decide) ?_
      subst hF
      exact r_zret K hw (by decide) d_Bout_isOver_23
    · replace hF := ifF hF c_2
      refine lv_iconst (v := 1) hx hb d_Bout_isOver_18 (by decide) ?_
      refine lv_goto (tgt := 23) hx hb d_Bout_isOver_19 (by decide) ?_
      subst hF
      exact r_zret K hw (by decide) d_Bout_isOver_23
end S_Bout_isOver
abbrev F_Bout_isOver := F_Bout_isOver_0
theorem c_Bout_isOver {l : Launch} {D : va_G} {cA : Nat → ClassId} {ad : Nat → Nat} {s0 : St} {r : Int32}   (hF : F_Bout_isOver s0 = r) : MI l D cA ad shC y_Bout_isOver (wT y_Bout_isOver b_Bout_isOver 1 (some .boolean)) rm_Bout_isOver [.ref (ad 11)] s0 r s0 := fun sz => m_start (Qc := fun A => QcI D cA ad shC A r s0) (by decide +kernel) w_744 (Nat.le_of_ble_eq_true rfl) (fun p e s m below meth c ls K hl hw => q_Bout_isOver_0 s0 K _ _ _   hw hl hF)

/-! Side.hardAt(I)I -/
abbrev b_Side_hardAt : ByteArray := prog_8_method_4_code
def y_Side_hardAt : MethodName := ⟨R_Side, "hardAt", "(I)I"⟩
theorem a_Side_hardAt : y_Side_hardAt.cls = R_Side ∧ y_Side_hardAt.cls ≠ "java/lang/invoke/MethodHandle" ∧ y_Side_hardAt.cls ≠ "java/lang/invoke/VarHandle" ∧ (parseMethodDescriptor y_Side_hardAt.desc).map (fun d => d.parameters.length) = some 1 := by decide +kernel
abbrev rm_Side_hardAt : Room := { frames := 0, cells := 0, slots := 0, locals := 0 }
theorem w_748 : Cond.code y_Side_hardAt b_Side_hardAt 2 (some .int) ∈ TB := tb_in 748 (by decide +kernel) (by decide +kernel)
theorem d_Side_hardAt_0 : decode b_Side_hardAt 0 = .ok (.iload_n 1, 1) := by decide +kernel
theorem d_Side_hardAt_1 : decode b_Side_hardAt 1 = .ok (.aload_n 0, 1) := by decide +kernel
theorem d_Side_hardAt_2 : decode b_Side_hardAt 2 = .ok (.getfield 35, 3) := by decide +kernel
theorem d_Side_hardAt_5 : decode b_Side_hardAt 5 = .ok (.if_icmp .ge 5, 3) := by decide +kernel
theorem d_Side_hardAt_8 : decode b_Side_hardAt 8 = .ok (.iconst 0, 1) := by decide +kernel
theorem d_Side_hardAt_9 : decode b_Side_hardAt 9 = .ok (.ireturn, 1) := by decide +kernel
theorem d_Side_hardAt_10 : decode b_Side_hardAt 10 = .ok (.iload_n 1, 1) := by decide +kernel
theorem d_Side_hardAt_11 : decode b_Side_hardAt 11 = .ok (.bipush 10, 2) := by decide +kernel
theorem d_Side_hardAt_13 : decode b_Side_hardAt 13 = .ok (.idiv, 1) := by decide +kernel
theorem d_Side_hardAt_14 : decode b_Side_hardAt 14 = .ok (.tableswitch 60 0 2 #[26, 38, 49], 26) := by decide +kernel
theorem d_Side_hardAt_40 : decode b_Side_hardAt 40 = .ok (.aload_n 0, 1) := by decide +kernel
theorem d_Side_hardAt_41 : decode b_Side_hardAt 41 = .ok (.getfield 31, 3) := by decide +kernel
theorem d_Side_hardAt_44 : decode b_Side_hardAt 44 = .ok (.sipush 1000, 3) := by decide +kernel
theorem d_Side_hardAt_47 : decode b_Side_hardAt 47 = .ok (.idiv, 1) := by decide +kernel
theorem d_Side_hardAt_48 : decode b_Side_hardAt 48 = .ok (.bipush 10, 2) := by decide +kernel
theorem d_Side_hardAt_50 : decode b_Side_hardAt 50 = .ok (.irem, 1) := by decide +kernel
theorem d_Side_hardAt_51 : decode b_Side_hardAt 51 = .ok (.ireturn, 1) := by decide +kernel
theorem d_Side_hardAt_52 : decode b_Side_hardAt 52 = .ok (.aload_n 0, 1) := by decide +kernel
theorem d_Side_hardAt_53 : decode b_Side_hardAt 53 = .ok (.getfield 31, 3) := by decide +kernel
theorem d_Side_hardAt_56 : decode b_Side_hardAt 56 = .ok (.bipush 100, 2) := by decide +kernel
theorem d_Side_hardAt_58 : decode b_Side_hardAt 58 = .ok (.idiv, 1) := by decide +kernel
theorem d_Side_hardAt_59 : decode b_Side_hardAt 59 = .ok (.bipush 10, 2) := by decide +kernel
theorem d_Side_hardAt_61 : decode b_Side_hardAt 61 = .ok (.irem, 1) := by decide +kernel
theorem d_Side_hardAt_62 : decode b_Side_hardAt 62 = .ok (.ireturn, 1) := by decide +kernel
theorem d_Side_hardAt_63 : decode b_Side_hardAt 63 = .ok (.aload_n 0, 1) := by decide +kernel
theorem d_Side_hardAt_64 : decode b_Side_hardAt 64 = .ok (.getfield 31, 3) := by decide +kernel
theorem d_Side_hardAt_67 : decode b_Side_hardAt 67 = .ok (.bipush 10, 2) := by decide +kernel
theorem d_Side_hardAt_69 : decode b_Side_hardAt 69 = .ok (.idiv, 1) := by decide +kernel
theorem d_Side_hardAt_70 : decode b_Side_hardAt 70 = .ok (.bipush 10, 2) := by decide +kernel
theorem d_Side_hardAt_72 : decode b_Side_hardAt 72 = .ok (.irem, 1) := by decide +kernel
theorem d_Side_hardAt_73 : decode b_Side_hardAt 73 = .ok (.ireturn, 1) := by decide +kernel
theorem d_Side_hardAt_74 : decode b_Side_hardAt 74 = .ok (.aload_n 0, 1) := by decide +kernel
theorem d_Side_hardAt_75 : decode b_Side_hardAt 75 = .ok (.getfield 31, 3) := by decide +kernel
theorem d_Side_hardAt_78 : decode b_Side_hardAt 78 = .ok (.bipush 10, 2) := by decide +kernel
theorem d_Side_hardAt_80 : decode b_Side_hardAt 80 = .ok (.irem, 1) := by decide +kernel
theorem d_Side_hardAt_81 : decode b_Side_hardAt 81 = .ok (.ireturn, 1) := by decide +kernel
section S_Side_hardAt
variable {p : Program} {l : Launch} {e : Env} {s : State} {m : MethodId} {args : Array Value} {below : List Frame} {meth : Method} {c : Code} {D : va_G} {cA : Nat → ClassId} {ad : Nat → Nat} {A : Nat → Prop} {r : Int32} {τ : St}
def F_Side_hardAt_0 (s0 : St) (v0 : Nat) (v1 : Int32) : Int32 := (if (s0.1 v0 3) ≤ v1 then (if (v1 / (10 : Int32)) = 0 then (jrem ((s0.1 v0 2) / (1000 : Int32)) (10 : Int32)) else (if (v1 / (10 : Int32)) = 1 then (jrem ((s0.1 v0 2) / (100 : Int32)) (10 : Int32)) else (if (v1 / (10 : Int32)) = 2 then (jrem ((s0.1 v0 2) / (10 : Int32)) (10 : Int32)) else (jrem (s0.1 v0 2) (10 : Int32))))) else (0 : Int32))
set_option maxHeartbeats 4000000 in
set_option maxRecDepth 100000 in
theorem q_Side_hardAt_0 (s0 : St) (K : Fx p s m args meth c b_Side_hardAt 2 R_Side (some .int))  : ∀ (H : Heap) (locs : List Loc) (ls : Array Slot) (v0 : Nat) (v1 : Int32) (g_v0 : P_Side v0), Wh D cA ad shC A s s0 H locs → lv_has ls 2 [(0, .ref (ad v0)), (1, .int v1)] → F_Side_hardAt_0 s0 v0 v1 = r → W p l e rm_Side_hardAt s m args below meth c H locs 0 0 (MQ below (QcI D cA ad shC A r s0) args s 0 0 A) (F0 m 0 ls []) := by
  have hx := K.1.1; have hb := K.1.2.1
  intro H locs ls v0 v1 g_v0 hw hl hF
  unfold F_Side_hardAt_0 at hF
  refine lv_iload_n hx hb d_Side_hardAt_0 rfl (lv_at hl 1 rfl) ?_
  refine lv_aload_n hx hb d_Side_hardAt_1 rfl (lv_at hl 0 rfl) ?_
  refine r_get (v := .int (s0.1 v0 3)) K hw i_Side (sh_Side g_v0) rfl 3 (by decide) w_516 rfl rfl rfl d_Side_hardAt_2 ?_
  refine lv_icmp_ge (tgt := 10) hx hb d_Side_hardAt_5 (by decide) (fun c_1 => ?_) (fun c_1 => ?_)
  · replace hF := ifT hF c_1
    refine lv_iload_n hx hb d_Side_hardAt_10 rfl (lv_at hl 1 rfl) ?_
    refine lv_bipush (v := 10) hx hb d_Side_hardAt_11 (by decide) ?_
    refine lv_idiv hx hb d_Side_hardAt_13 (by decide) ?_
    by_cases c_2 : (v1 / (10 : Int32)) = 0
    · replace hF := ifT hF c_2
      refine lv_tableIn (tgt := 40) hx hb d_Side_hardAt_14 (by rw [c_2]; decide) (by rw [c_2]; decide) (by rw [c_2]; rfl) (by decide) ?_
      refine lv_aload_n hx hb d_Side_hardAt_40 rfl (lv_at hl 0 rfl) ?_
      refine r_get (v := .int (s0.1 v0 2)) K hw i_Side (sh_Side g_v0) rfl 2 (by decide) w_515 rfl rfl rfl d_Side_hardAt_41 ?_
      refine lv_sipush (v := 1000) hx hb d_Side_hardAt_44 (by decide) ?_
      refine lv_idiv hx hb d_Side_hardAt_47 (by decide) ?_
      refine lv_bipush (v := 10) hx hb d_Side_hardAt_48 (by decide) ?_
      refine lv_irem hx hb d_Side_hardAt_50 (by decide) ?_
      subst hF
      exact r_iret K hw d_Side_hardAt_51
    replace hF := ifF hF c_2
    by_cases c_3 : (v1 / (10 : Int32)) = 1
    · replace hF := ifT hF c_3
      refine lv_tableIn (tgt := 52) hx hb d_Side_hardAt_14 (by rw [c_3]; decide) (by rw [c_3]; decide) (by rw [c_3]; rfl) (by decide) ?_
      refine lv_aload_n hx hb d_Side_hardAt_52 rfl (lv_at hl 0 rfl) ?_
      refine r_get (v := .int (s0.1 v0 2)) K hw i_Side (sh_Side g_v0) rfl 2 (by decide) w_515 rfl rfl rfl d_Side_hardAt_53 ?_
      refine lv_bipush (v := 100) hx hb d_Side_hardAt_56 (by decide) ?_
      refine lv_idiv hx hb d_Side_hardAt_58 (by decide) ?_
      refine lv_bipush (v := 10) hx hb d_Side_hardAt_59 (by decide) ?_
      refine lv_irem hx hb d_Side_hardAt_61 (by decide) ?_
      subst hF
      exact r_iret K hw d_Side_hardAt_62
    replace hF := ifF hF c_3
    by_cases c_4 : (v1 / (10 : Int32)) = 2
    · replace hF := ifT hF c_4
      refine lv_tableIn (tgt := 63) hx hb d_Side_hardAt_14 (by rw [c_4]; decide) (by rw [c_4]; decide) (by rw [c_4]; rfl) (by decide) ?_
      refine lv_aload_n hx hb d_Side_hardAt_63 rfl (lv_at hl 0 rfl) ?_
      refine r_get (v := .int (s0.1 v0 2)) K hw i_Side (sh_Side g_v0) rfl 2 (by decide) w_515 rfl rfl rfl d_Side_hardAt_64 ?_
      refine lv_bipush (v := 10) hx hb d_Side_hardAt_67 (by decide) ?_
      refine lv_idiv hx hb d_Side_hardAt_69 (by decide) ?_
      refine lv_bipush (v := 10) hx hb d_Side_hardAt_70 (by decide) ?_
      refine lv_irem hx hb d_Side_hardAt_72 (by decide) ?_
      subst hF
      exact r_iret K hw d_Side_hardAt_73
    replace hF := ifF hF c_4
    have nc_2 : ¬ ((v1 / (10 : Int32))).toInt = 0 := lv_neT c_2 rfl
    have nc_3 : ¬ ((v1 / (10 : Int32))).toInt = 1 := lv_neT c_3 rfl
    have nc_4 : ¬ ((v1 / (10 : Int32))).toInt = 2 := lv_neT c_4 rfl
    refine lv_tableOut (tgt := 74) hx hb d_Side_hardAt_14 (by omega) (by decide) ?_
    refine lv_aload_n hx hb d_Side_hardAt_74 rfl (lv_at hl 0 rfl) ?_
    refine r_get (v := .int (s0.1 v0 2)) K hw i_Side (sh_Side g_v0) rfl 2 (by decide) w_515 rfl rfl rfl d_Side_hardAt_75 ?_
    refine lv_bipush (v := 10) hx hb d_Side_hardAt_78 (by decide) ?_
    refine lv_irem hx hb d_Side_hardAt_80 (by decide) ?_
    subst hF
    exact r_iret K hw d_Side_hardAt_81
  · replace hF := ifF hF c_1
    refine lv_iconst (v := 0) hx hb d_Side_hardAt_8 (by decide) ?_
    subst hF
    exact r_iret K hw d_Side_hardAt_9
end S_Side_hardAt
abbrev F_Side_hardAt := F_Side_hardAt_0
theorem c_Side_hardAt {l : Launch} {D : va_G} {cA : Nat → ClassId} {ad : Nat → Nat} {s0 : St} {r : Int32} {v0 : Nat} {v1 : Int32} (g_v0 : P_Side v0) (hF : F_Side_hardAt s0 v0 v1 = r) : MI l D cA ad shC y_Side_hardAt (wT y_Side_hardAt b_Side_hardAt 2 (some .int)) rm_Side_hardAt [.ref (ad v0), .int v1] s0 r s0 := fun sz => m_start (Qc := fun A => QcI D cA ad shC A r s0) (by decide +kernel) w_748 (Nat.le_of_ble_eq_true rfl) (fun p e s m below meth c ls K hl hw => q_Side_hardAt_0 s0 K _ _ _ _ _ g_v0 hw hl hF)

/-! Arm.forceOf(III)I -/
abbrev b_Arm_forceOf : ByteArray := prog_2_method_4_code
def y_Arm_forceOf : MethodName := ⟨R_Arm, "forceOf", "(III)I"⟩
theorem a_Arm_forceOf : y_Arm_forceOf.cls = R_Arm ∧ y_Arm_forceOf.cls ≠ "java/lang/invoke/MethodHandle" ∧ y_Arm_forceOf.cls ≠ "java/lang/invoke/VarHandle" ∧ (parseMethodDescriptor y_Arm_forceOf.desc).map (fun d => d.parameters.length) = some 3 := by decide +kernel
abbrev rm_Arm_forceOf : Room := { frames := 1, cells := 0, slots := 0, locals := 22 }
theorem w_758 : Cond.code y_Arm_forceOf b_Arm_forceOf 5 (some .int) ∈ TB := tb_in 758 (by decide +kernel) (by decide +kernel)
theorem nw_759 : Cond.methodLinkNest R_Arm 61 y_Main_bounded R_Main ∈ NWS := List.mem_of_getElem? (i := 8) (by decide +kernel)
theorem d_Arm_forceOf_0 : decode b_Arm_forceOf 0 = .ok (.iload_n 1, 1) := by decide +kernel
theorem d_Arm_forceOf_1 : decode b_Arm_forceOf 1 = .ok (.istore 4, 2) := by decide +kernel
theorem d_Arm_forceOf_3 : decode b_Arm_forceOf 3 = .ok (.aload_n 0, 1) := by decide +kernel
theorem d_Arm_forceOf_4 : decode b_Arm_forceOf 4 = .ok (.getfield 31, 3) := by decide +kernel
theorem d_Arm_forceOf_7 : decode b_Arm_forceOf 7 = .ok (.ifCond .eq 20, 3) := by decide +kernel
theorem d_Arm_forceOf_10 : decode b_Arm_forceOf 10 = .ok (.iload_n 2, 1) := by decide +kernel
theorem d_Arm_forceOf_11 : decode b_Arm_forceOf 11 = .ok (.bipush 12, 2) := by decide +kernel
theorem d_Arm_forceOf_13 : decode b_Arm_forceOf 13 = .ok (.if_icmp .le 14, 3) := by decide +kernel
theorem d_Arm_forceOf_16 : decode b_Arm_forceOf 16 = .ok (.iload 4, 2) := by decide +kernel
theorem d_Arm_forceOf_18 : decode b_Arm_forceOf 18 = .ok (.iconst 2, 1) := by decide +kernel
theorem d_Arm_forceOf_19 : decode b_Arm_forceOf 19 = .ok (.aload_n 0, 1) := by decide +kernel
theorem d_Arm_forceOf_20 : decode b_Arm_forceOf 20 = .ok (.getfield 18, 3) := by decide +kernel
theorem d_Arm_forceOf_23 : decode b_Arm_forceOf 23 = .ok (.imul, 1) := by decide +kernel
theorem d_Arm_forceOf_24 : decode b_Arm_forceOf 24 = .ok (.iadd, 1) := by decide +kernel
theorem d_Arm_forceOf_25 : decode b_Arm_forceOf 25 = .ok (.istore 4, 2) := by decide +kernel
theorem d_Arm_forceOf_27 : decode b_Arm_forceOf 27 = .ok (.aload_n 0, 1) := by decide +kernel
theorem d_Arm_forceOf_28 : decode b_Arm_forceOf 28 = .ok (.getfield 35, 3) := by decide +kernel
theorem d_Arm_forceOf_31 : decode b_Arm_forceOf 31 = .ok (.ifCond .eq 15, 3) := by decide +kernel
theorem d_Arm_forceOf_34 : decode b_Arm_forceOf 34 = .ok (.iload_n 3, 1) := by decide +kernel
theorem d_Arm_forceOf_35 : decode b_Arm_forceOf 35 = .ok (.ifCond .le 11, 3) := by decide +kernel
theorem d_Arm_forceOf_38 : decode b_Arm_forceOf 38 = .ok (.iload 4, 2) := by decide +kernel
theorem d_Arm_forceOf_40 : decode b_Arm_forceOf 40 = .ok (.iload_n 3, 1) := by decide +kernel
theorem d_Arm_forceOf_41 : decode b_Arm_forceOf 41 = .ok (.iconst 3, 1) := by decide +kernel
theorem d_Arm_forceOf_42 : decode b_Arm_forceOf 42 = .ok (.idiv, 1) := by decide +kernel
theorem d_Arm_forceOf_43 : decode b_Arm_forceOf 43 = .ok (.iadd, 1) := by decide +kernel
theorem d_Arm_forceOf_44 : decode b_Arm_forceOf 44 = .ok (.istore 4, 2) := by decide +kernel
theorem d_Arm_forceOf_46 : decode b_Arm_forceOf 46 = .ok (.aload_n 0, 1) := by decide +kernel
theorem d_Arm_forceOf_47 : decode b_Arm_forceOf 47 = .ok (.getfield 38, 3) := by decide +kernel
theorem d_Arm_forceOf_50 : decode b_Arm_forceOf 50 = .ok (.ifCond .eq 16, 3) := by decide +kernel
theorem d_Arm_forceOf_53 : decode b_Arm_forceOf 53 = .ok (.iload_n 3, 1) := by decide +kernel
theorem d_Arm_forceOf_54 : decode b_Arm_forceOf 54 = .ok (.ifCond .ge 12, 3) := by decide +kernel
theorem d_Arm_forceOf_57 : decode b_Arm_forceOf 57 = .ok (.iload 4, 2) := by decide +kernel
theorem d_Arm_forceOf_59 : decode b_Arm_forceOf 59 = .ok (.iload_n 3, 1) := by decide +kernel
theorem d_Arm_forceOf_60 : decode b_Arm_forceOf 60 = .ok (.ineg, 1) := by decide +kernel
theorem d_Arm_forceOf_61 : decode b_Arm_forceOf 61 = .ok (.iconst 2, 1) := by decide +kernel
theorem d_Arm_forceOf_62 : decode b_Arm_forceOf 62 = .ok (.idiv, 1) := by decide +kernel
theorem d_Arm_forceOf_63 : decode b_Arm_forceOf 63 = .ok (.iadd, 1) := by decide +kernel
theorem d_Arm_forceOf_64 : decode b_Arm_forceOf 64 = .ok (.istore 4, 2) := by decide +kernel
theorem d_Arm_forceOf_66 : decode b_Arm_forceOf 66 = .ok (.aload_n 0, 1) := by decide +kernel
theorem d_Arm_forceOf_67 : decode b_Arm_forceOf 67 = .ok (.getfield 41, 3) := by decide +kernel
theorem d_Arm_forceOf_70 : decode b_Arm_forceOf 70 = .ok (.ifCond .eq 27, 3) := by decide +kernel
theorem d_Arm_forceOf_73 : decode b_Arm_forceOf 73 = .ok (.iload_n 3, 1) := by decide +kernel
theorem d_Arm_forceOf_74 : decode b_Arm_forceOf 74 = .ok (.bipush (-2), 2) := by decide +kernel
theorem d_Arm_forceOf_76 : decode b_Arm_forceOf 76 = .ok (.aload_n 0, 1) := by decide +kernel
theorem d_Arm_forceOf_77 : decode b_Arm_forceOf 77 = .ok (.getfield 18, 3) := by decide +kernel
theorem d_Arm_forceOf_80 : decode b_Arm_forceOf 80 = .ok (.imul, 1) := by decide +kernel
theorem d_Arm_forceOf_81 : decode b_Arm_forceOf 81 = .ok (.if_icmp .ge 10, 3) := by decide +kernel
theorem d_Arm_forceOf_84 : decode b_Arm_forceOf 84 = .ok (.iload 4, 2) := by decide +kernel
theorem d_Arm_forceOf_86 : decode b_Arm_forceOf 86 = .ok (.iconst 2, 1) := by decide +kernel
theorem d_Arm_forceOf_87 : decode b_Arm_forceOf 87 = .ok (.idiv, 1) := by decide +kernel
theorem d_Arm_forceOf_88 : decode b_Arm_forceOf 88 = .ok (.goto 7, 3) := by decide +kernel
theorem d_Arm_forceOf_91 : decode b_Arm_forceOf 91 = .ok (.iload 4, 2) := by decide +kernel
theorem d_Arm_forceOf_93 : decode b_Arm_forceOf 93 = .ok (.iconst 5, 1) := by decide +kernel
theorem d_Arm_forceOf_94 : decode b_Arm_forceOf 94 = .ok (.iadd, 1) := by decide +kernel
theorem d_Arm_forceOf_95 : decode b_Arm_forceOf 95 = .ok (.istore 4, 2) := by decide +kernel
theorem d_Arm_forceOf_97 : decode b_Arm_forceOf 97 = .ok (.iload 4, 2) := by decide +kernel
theorem d_Arm_forceOf_99 : decode b_Arm_forceOf 99 = .ok (.iconst 0, 1) := by decide +kernel
theorem d_Arm_forceOf_100 : decode b_Arm_forceOf 100 = .ok (.sipush 400, 3) := by decide +kernel
theorem d_Arm_forceOf_103 : decode b_Arm_forceOf 103 = .ok (.invokestatic 61, 3) := by decide +kernel
theorem d_Arm_forceOf_106 : decode b_Arm_forceOf 106 = .ok (.ireturn, 1) := by decide +kernel
section S_Arm_forceOf
variable {p : Program} {l : Launch} {e : Env} {s : State} {m : MethodId} {args : Array Value} {below : List Frame} {meth : Method} {c : Code} {D : va_G} {cA : Nat → ClassId} {ad : Nat → Nat} {A : Nat → Prop} {r : Int32} {τ : St}
def F_Arm_forceOf_97 (s0 : St) (v4 : Int32) : Int32 := (F_Main_bounded v4 (0 : Int32) (400 : Int32))
set_option maxHeartbeats 4000000 in
set_option maxRecDepth 100000 in
theorem q_Arm_forceOf_97 (s0 : St) (K : Fx p s m args meth c b_Arm_forceOf 5 R_Arm (some .int))  : ∀ (H : Heap) (locs : List Loc) (ls : Array Slot) (v4 : Int32), Wh D cA ad shC A s s0 H locs → lv_has ls 5 [(4, .int v4)] → F_Arm_forceOf_97 s0 v4 = r → W p l e rm_Arm_forceOf s m args below meth c H locs 0 0 (MQ below (QcI D cA ad shC A r s0) args s 0 0 A) (F0 m 97 ls []) := by
  have hx := K.1.1; have hb := K.1.2.1
  intro H locs ls v4 hw hl hF
  unfold F_Arm_forceOf_97 at hF
  refine lv_iload hx hb d_Arm_forceOf_97 (lv_at hl 0 rfl) ?_
  refine lv_iconst (v := 0) hx hb d_Arm_forceOf_99 (by decide) ?_
  refine lv_sipush (v := 400) hx hb d_Arm_forceOf_100 (by decide) ?_
  refine r_callNI (As := [.int v4, .int (0 : Int32), .int (400 : Int32)]) (rest := []) K hw hl.1 (c_Main_bounded (l := l) (D := D) (cA := cA) (ad := ad) (s0 := s0)  rfl) (nw_759) w_683 w_63 w_684 a_Main_bounded.2 ⟨rfl, rfl, Nat.le_of_ble_eq_true rfl, Nat.le_of_ble_eq_true rfl⟩ rfl rfl (Nat.le_of_ble_eq_true rfl) d_Arm_forceOf_103 (fun H locs hw => ?_)
  subst hF
  exact r_iret K hw d_Arm_forceOf_106
def F_Arm_forceOf_95 (s0 : St) (t0 : Int32) : Int32 := (F_Arm_forceOf_97 s0 t0)
set_option maxHeartbeats 4000000 in
set_option maxRecDepth 100000 in
theorem q_Arm_forceOf_95 (s0 : St) (K : Fx p s m args meth c b_Arm_forceOf 5 R_Arm (some .int))  : ∀ (H : Heap) (locs : List Loc) (ls : Array Slot) (t0 : Int32), Wh D cA ad shC A s s0 H locs → lv_has ls 5 [] → F_Arm_forceOf_95 s0 t0 = r → W p l e rm_Arm_forceOf s m args below meth c H locs 0 0 (MQ below (QcI D cA ad shC A r s0) args s 0 0 A) (F0 m 95 ls [.int t0]) := by
  have hx := K.1.1; have hb := K.1.2.1
  intro H locs ls t0 hw hl hF
  unfold F_Arm_forceOf_95 at hF
  refine lv_istore (lv' := [(4, .int t0)]) hx hb d_Arm_forceOf_95 hl (by decide) rfl (fun ls hl => ?_)
  exact q_Arm_forceOf_97 s0 K _ _ _ _  hw (lv_sub hl [0] rfl) hF
def F_Arm_forceOf_66 (s0 : St) (v0 : Nat) (v3 : Int32) (v4 : Int32) : Int32 := (if (s0.1 v0 9) = 0 then (F_Arm_forceOf_97 s0 v4) else (if ((-2 : Int32) * (s0.1 v0 2)) ≤ v3 then (F_Arm_forceOf_95 s0 (v4 + (5 : Int32))) else (F_Arm_forceOf_95 s0 (v4 / (2 : Int32)))))
set_option maxHeartbeats 4000000 in
set_option maxRecDepth 100000 in
theorem q_Arm_forceOf_66 (s0 : St) (K : Fx p s m args meth c b_Arm_forceOf 5 R_Arm (some .int))  : ∀ (H : Heap) (locs : List Loc) (ls : Array Slot) (v0 : Nat) (v3 : Int32) (v4 : Int32) (g_v0 : P_Arm v0), Wh D cA ad shC A s s0 H locs → lv_has ls 5 [(0, .ref (ad v0)), (3, .int v3), (4, .int v4)] → F_Arm_forceOf_66 s0 v0 v3 v4 = r → W p l e rm_Arm_forceOf s m args below meth c H locs 0 0 (MQ below (QcI D cA ad shC A r s0) args s 0 0 A) (F0 m 66 ls []) := by
  have hx := K.1.1; have hb := K.1.2.1
  intro H locs ls v0 v3 v4 g_v0 hw hl hF
  unfold F_Arm_forceOf_66 at hF
  refine lv_aload_n hx hb d_Arm_forceOf_66 rfl (lv_at hl 0 rfl) ?_
  refine r_get (v := .int (s0.1 v0 9)) K hw i_Arm (sh_Arm g_v0) rfl 9 (by decide) w_162 rfl rfl rfl d_Arm_forceOf_67 ?_
  refine lv_if_eq (tgt := 97) hx hb d_Arm_forceOf_70 (by decide) (fun c_4 => ?_) (fun c_4 => ?_)
  · replace hF := ifT hF c_4
    exact q_Arm_forceOf_97 s0 K _ _ _ _  hw (lv_sub hl [2] rfl) hF
  · replace hF := ifF hF c_4
    refine lv_iload_n hx hb d_Arm_forceOf_73 rfl (lv_at hl 1 rfl) ?_
    refine lv_bipush (v := -2) hx hb d_Arm_forceOf_74 (by decide) ?_
    refine lv_aload_n hx hb d_Arm_forceOf_76 rfl (lv_at hl 0 rfl) ?_
    refine r_get (v := .int (s0.1 v0 2)) K hw i_Arm (sh_Arm g_v0) rfl 2 (by decide) w_147 rfl rfl rfl d_Arm_forceOf_77 ?_
    refine lv_imul hx hb d_Arm_forceOf_80 ?_
    refine lv_icmp_ge (tgt := 91) hx hb d_Arm_forceOf_81 (by decide) (fun c_5 => ?_) (fun c_5 => ?_)
    · replace hF := ifT hF c_5
      refine lv_iload hx hb d_Arm_forceOf_91 (lv_at hl 2 rfl) ?_
      refine lv_iconst (v := 5) hx hb d_Arm_forceOf_93 (by decide) ?_
      refine lv_iadd hx hb d_Arm_forceOf_94 ?_
      exact q_Arm_forceOf_95 s0 K _ _ _ _  hw (lv_sub hl [] rfl) hF
    · replace hF := ifF hF c_5
      refine lv_iload hx hb d_Arm_forceOf_84 (lv_at hl 2 rfl) ?_
      refine lv_iconst (v := 2) hx hb d_Arm_forceOf_86 (by decide) ?_
      refine lv_idiv hx hb d_Arm_forceOf_87 (by decide) ?_
      refine lv_goto (tgt := 95) hx hb d_Arm_forceOf_88 (by decide) ?_
      exact q_Arm_forceOf_95 s0 K _ _ _ _  hw (lv_sub hl [] rfl) hF
def F_Arm_forceOf_46 (s0 : St) (v0 : Nat) (v3 : Int32) (v4 : Int32) : Int32 := (if (s0.1 v0 8) = 0 then (F_Arm_forceOf_66 s0 v0 v3 v4) else (if 0 ≤ v3 then (F_Arm_forceOf_66 s0 v0 v3 v4) else (F_Arm_forceOf_66 s0 v0 v3 (v4 + ((-v3) / (2 : Int32))))))
set_option maxHeartbeats 4000000 in
set_option maxRecDepth 100000 in
theorem q_Arm_forceOf_46 (s0 : St) (K : Fx p s m args meth c b_Arm_forceOf 5 R_Arm (some .int))  : ∀ (H : Heap) (locs : List Loc) (ls : Array Slot) (v0 : Nat) (v3 : Int32) (v4 : Int32) (g_v0 : P_Arm v0), Wh D cA ad shC A s s0 H locs → lv_has ls 5 [(0, .ref (ad v0)), (3, .int v3), (4, .int v4)] → F_Arm_forceOf_46 s0 v0 v3 v4 = r → W p l e rm_Arm_forceOf s m args below meth c H locs 0 0 (MQ below (QcI D cA ad shC A r s0) args s 0 0 A) (F0 m 46 ls []) := by
  have hx := K.1.1; have hb := K.1.2.1
  intro H locs ls v0 v3 v4 g_v0 hw hl hF
  unfold F_Arm_forceOf_46 at hF
  refine lv_aload_n hx hb d_Arm_forceOf_46 rfl (lv_at hl 0 rfl) ?_
  refine r_get (v := .int (s0.1 v0 8)) K hw i_Arm (sh_Arm g_v0) rfl 8 (by decide) w_161 rfl rfl rfl d_Arm_forceOf_47 ?_
  refine lv_if_eq (tgt := 66) hx hb d_Arm_forceOf_50 (by decide) (fun c_3 => ?_) (fun c_3 => ?_)
  · replace hF := ifT hF c_3
    exact q_Arm_forceOf_66 s0 K _ _ _ _ _ _ g_v0 hw (lv_sub hl [0, 1, 2] rfl) hF
  · replace hF := ifF hF c_3
    refine lv_iload_n hx hb d_Arm_forceOf_53 rfl (lv_at hl 1 rfl) ?_
    refine lv_if_ge (tgt := 66) hx hb d_Arm_forceOf_54 (by decide) (fun c_6 => ?_) (fun c_6 => ?_)
    · replace hF := ifT hF c_6
      exact q_Arm_forceOf_66 s0 K _ _ _ _ _ _ g_v0 hw (lv_sub hl [0, 1, 2] rfl) hF
    · replace hF := ifF hF c_6
      refine lv_iload hx hb d_Arm_forceOf_57 (lv_at hl 2 rfl) ?_
      refine lv_iload_n hx hb d_Arm_forceOf_59 rfl (lv_at hl 1 rfl) ?_
      refine lv_ineg hx hb d_Arm_forceOf_60 ?_
      refine lv_iconst (v := 2) hx hb d_Arm_forceOf_61 (by decide) ?_
      refine lv_idiv hx hb d_Arm_forceOf_62 (by decide) ?_
      refine lv_iadd hx hb d_Arm_forceOf_63 ?_
      refine lv_istore (lv' := [(4, .int (v4 + ((-v3) / (2 : Int32)))), (0, .ref (ad v0)), (3, .int v3)]) hx hb d_Arm_forceOf_64 hl (by decide) rfl (fun ls hl => ?_)
      exact q_Arm_forceOf_66 s0 K _ _ _ _ _ _ g_v0 hw (lv_sub hl [1, 2, 0] rfl) hF
def F_Arm_forceOf_27 (s0 : St) (v0 : Nat) (v3 : Int32) (v4 : Int32) : Int32 := (if (s0.1 v0 7) = 0 then (F_Arm_forceOf_46 s0 v0 v3 v4) else (if v3 ≤ 0 then (F_Arm_forceOf_46 s0 v0 v3 v4) else (F_Arm_forceOf_46 s0 v0 v3 (v4 + (v3 / (3 : Int32))))))
set_option maxHeartbeats 4000000 in
set_option maxRecDepth 100000 in
theorem q_Arm_forceOf_27 (s0 : St) (K : Fx p s m args meth c b_Arm_forceOf 5 R_Arm (some .int))  : ∀ (H : Heap) (locs : List Loc) (ls : Array Slot) (v0 : Nat) (v3 : Int32) (v4 : Int32) (g_v0 : P_Arm v0), Wh D cA ad shC A s s0 H locs → lv_has ls 5 [(0, .ref (ad v0)), (3, .int v3), (4, .int v4)] → F_Arm_forceOf_27 s0 v0 v3 v4 = r → W p l e rm_Arm_forceOf s m args below meth c H locs 0 0 (MQ below (QcI D cA ad shC A r s0) args s 0 0 A) (F0 m 27 ls []) := by
  have hx := K.1.1; have hb := K.1.2.1
  intro H locs ls v0 v3 v4 g_v0 hw hl hF
  unfold F_Arm_forceOf_27 at hF
  refine lv_aload_n hx hb d_Arm_forceOf_27 rfl (lv_at hl 0 rfl) ?_
  refine r_get (v := .int (s0.1 v0 7)) K hw i_Arm (sh_Arm g_v0) rfl 7 (by decide) w_160 rfl rfl rfl d_Arm_forceOf_28 ?_
  refine lv_if_eq (tgt := 46) hx hb d_Arm_forceOf_31 (by decide) (fun c_2 => ?_) (fun c_2 => ?_)
  · replace hF := ifT hF c_2
    exact q_Arm_forceOf_46 s0 K _ _ _ _ _ _ g_v0 hw (lv_sub hl [0, 1, 2] rfl) hF
  · replace hF := ifF hF c_2
    refine lv_iload_n hx hb d_Arm_forceOf_34 rfl (lv_at hl 1 rfl) ?_
    refine lv_if_le (tgt := 46) hx hb d_Arm_forceOf_35 (by decide) (fun c_7 => ?_) (fun c_7 => ?_)
    · replace hF := ifT hF c_7
      exact q_Arm_forceOf_46 s0 K _ _ _ _ _ _ g_v0 hw (lv_sub hl [0, 1, 2] rfl) hF
    · replace hF := ifF hF c_7
      refine lv_iload hx hb d_Arm_forceOf_38 (lv_at hl 2 rfl) ?_
      refine lv_iload_n hx hb d_Arm_forceOf_40 rfl (lv_at hl 1 rfl) ?_
      refine lv_iconst (v := 3) hx hb d_Arm_forceOf_41 (by decide) ?_
      refine lv_idiv hx hb d_Arm_forceOf_42 (by decide) ?_
      refine lv_iadd hx hb d_Arm_forceOf_43 ?_
      refine lv_istore (lv' := [(4, .int (v4 + (v3 / (3 : Int32)))), (0, .ref (ad v0)), (3, .int v3)]) hx hb d_Arm_forceOf_44 hl (by decide) rfl (fun ls hl => ?_)
      exact q_Arm_forceOf_46 s0 K _ _ _ _ _ _ g_v0 hw (lv_sub hl [1, 2, 0] rfl) hF
def F_Arm_forceOf_0 (s0 : St) (v0 : Nat) (v1 : Int32) (v2 : Int32) (v3 : Int32) : Int32 := (if (s0.1 v0 6) = 0 then (F_Arm_forceOf_27 s0 v0 v3 v1) else (if v2 ≤ (12 : Int32) then (F_Arm_forceOf_27 s0 v0 v3 v1) else (F_Arm_forceOf_27 s0 v0 v3 (v1 + ((2 : Int32) * (s0.1 v0 2))))))
set_option maxHeartbeats 4000000 in
set_option maxRecDepth 100000 in
theorem q_Arm_forceOf_0 (s0 : St) (K : Fx p s m args meth c b_Arm_forceOf 5 R_Arm (some .int))  : ∀ (H : Heap) (locs : List Loc) (ls : Array Slot) (v0 : Nat) (v1 : Int32) (v2 : Int32) (v3 : Int32) (g_v0 : P_Arm v0), Wh D cA ad shC A s s0 H locs → lv_has ls 5 [(0, .ref (ad v0)), (1, .int v1), (2, .int v2), (3, .int v3)] → F_Arm_forceOf_0 s0 v0 v1 v2 v3 = r → W p l e rm_Arm_forceOf s m args below meth c H locs 0 0 (MQ below (QcI D cA ad shC A r s0) args s 0 0 A) (F0 m 0 ls []) := by
  have hx := K.1.1; have hb := K.1.2.1
  intro H locs ls v0 v1 v2 v3 g_v0 hw hl hF
  unfold F_Arm_forceOf_0 at hF
  refine lv_iload_n hx hb d_Arm_forceOf_0 rfl (lv_at hl 1 rfl) ?_
  refine lv_istore (lv' := [(4, .int v1), (0, .ref (ad v0)), (1, .int v1), (2, .int v2), (3, .int v3)]) hx hb d_Arm_forceOf_1 hl (by decide) rfl (fun ls hl => ?_)
  refine lv_aload_n hx hb d_Arm_forceOf_3 rfl (lv_at hl 1 rfl) ?_
  refine r_get (v := .int (s0.1 v0 6)) K hw i_Arm (sh_Arm g_v0) rfl 6 (by decide) w_159 rfl rfl rfl d_Arm_forceOf_4 ?_
  refine lv_if_eq (tgt := 27) hx hb d_Arm_forceOf_7 (by decide) (fun c_1 => ?_) (fun c_1 => ?_)
  · replace hF := ifT hF c_1
    exact q_Arm_forceOf_27 s0 K _ _ _ _ _ _ g_v0 hw (lv_sub hl [1, 4, 0] rfl) hF
  · replace hF := ifF hF c_1
    refine lv_iload_n hx hb d_Arm_forceOf_10 rfl (lv_at hl 3 rfl) ?_
    refine lv_bipush (v := 12) hx hb d_Arm_forceOf_11 (by decide) ?_
    refine lv_icmp_le (tgt := 27) hx hb d_Arm_forceOf_13 (by decide) (fun c_8 => ?_) (fun c_8 => ?_)
    · replace hF := ifT hF c_8
      exact q_Arm_forceOf_27 s0 K _ _ _ _ _ _ g_v0 hw (lv_sub hl [1, 4, 0] rfl) hF
    · replace hF := ifF hF c_8
      refine lv_iload hx hb d_Arm_forceOf_16 (lv_at hl 0 rfl) ?_
      refine lv_iconst (v := 2) hx hb d_Arm_forceOf_18 (by decide) ?_
      refine lv_aload_n hx hb d_Arm_forceOf_19 rfl (lv_at hl 1 rfl) ?_
      refine r_get (v := .int (s0.1 v0 2)) K hw i_Arm (sh_Arm g_v0) rfl 2 (by decide) w_147 rfl rfl rfl d_Arm_forceOf_20 ?_
      refine lv_imul hx hb d_Arm_forceOf_23 ?_
      refine lv_iadd hx hb d_Arm_forceOf_24 ?_
      refine lv_istore (lv' := [(4, .int (v1 + ((2 : Int32) * (s0.1 v0 2)))), (0, .ref (ad v0)), (1, .int v1), (2, .int v2), (3, .int v3)]) hx hb d_Arm_forceOf_25 hl (by decide) rfl (fun ls hl => ?_)
      exact q_Arm_forceOf_27 s0 K _ _ _ _ _ _ g_v0 hw (lv_sub hl [1, 4, 0] rfl) hF
end S_Arm_forceOf
abbrev F_Arm_forceOf := F_Arm_forceOf_0
theorem c_Arm_forceOf {l : Launch} {D : va_G} {cA : Nat → ClassId} {ad : Nat → Nat} {s0 : St} {r : Int32} {v0 : Nat} {v1 : Int32} {v2 : Int32} {v3 : Int32} (g_v0 : P_Arm v0) (hF : F_Arm_forceOf s0 v0 v1 v2 v3 = r) : MI l D cA ad shC y_Arm_forceOf (wT y_Arm_forceOf b_Arm_forceOf 5 (some .int)) rm_Arm_forceOf [.ref (ad v0), .int v1, .int v2, .int v3] s0 r s0 := fun sz => m_start (Qc := fun A => QcI D cA ad shC A r s0) (by decide +kernel) w_758 (Nat.le_of_ble_eq_true rfl) (fun p e s m below meth c ls K hl hw => q_Arm_forceOf_0 s0 K _ _ _ _ _ _ _ g_v0 hw hl hF)

/-! Side.presses(LText;)I -/
abbrev b_Side_presses : ByteArray := prog_8_method_5_code
def y_Side_presses : MethodName := ⟨R_Side, "presses", "(LArmAgainstArm$Text;)I"⟩
theorem a_Side_presses : y_Side_presses.cls = R_Side ∧ y_Side_presses.cls ≠ "java/lang/invoke/MethodHandle" ∧ y_Side_presses.cls ≠ "java/lang/invoke/VarHandle" ∧ (parseMethodDescriptor y_Side_presses.desc).map (fun d => d.parameters.length) = some 1 := by decide +kernel
abbrev rm_Side_presses : Room := { frames := 3, cells := 0, slots := 0, locals := 70 }
theorem w_754 : Cond.methodLink R_Side 42 y_Text_says ∈ TB := tb_in 754 (by decide +kernel) (by decide +kernel)
theorem w_755 : Cond.methodLink R_Side 46 y_Arm_forceOf ∈ TB := tb_in 755 (by decide +kernel) (by decide +kernel)
theorem w_756 : Cond.instanceMethod y_Arm_forceOf ∈ TB := tb_in 756 (by decide +kernel) (by decide +kernel)
theorem w_757 : Cond.selects R_Arm y_Arm_forceOf y_Arm_forceOf ∈ TB := tb_in 757 (by decide +kernel) (by decide +kernel)
theorem w_753 : Cond.code y_Side_presses b_Side_presses 2 (some .int) ∈ TB := tb_in 753 (by decide +kernel) (by decide +kernel)
theorem d_Side_presses_0 : decode b_Side_presses 0 = .ok (.aload_n 0, 1) := by decide +kernel
theorem d_Side_presses_1 : decode b_Side_presses 1 = .ok (.getfield 17, 3) := by decide +kernel
theorem d_Side_presses_4 : decode b_Side_presses 4 = .ok (.aload_n 1, 1) := by decide +kernel
theorem d_Side_presses_5 : decode b_Side_presses 5 = .ok (.iconst 0, 1) := by decide +kernel
theorem d_Side_presses_6 : decode b_Side_presses 6 = .ok (.aload_n 0, 1) := by decide +kernel
theorem d_Side_presses_7 : decode b_Side_presses 7 = .ok (.getfield 11, 3) := by decide +kernel
theorem d_Side_presses_10 : decode b_Side_presses 10 = .ok (.invokevirtual 42, 3) := by decide +kernel
theorem d_Side_presses_13 : decode b_Side_presses 13 = .ok (.aload_n 0, 1) := by decide +kernel
theorem d_Side_presses_14 : decode b_Side_presses 14 = .ok (.getfield 27, 3) := by decide +kernel
theorem d_Side_presses_17 : decode b_Side_presses 17 = .ok (.aload_n 0, 1) := by decide +kernel
theorem d_Side_presses_18 : decode b_Side_presses 18 = .ok (.getfield 11, 3) := by decide +kernel
theorem d_Side_presses_21 : decode b_Side_presses 21 = .ok (.iconst 4, 1) := by decide +kernel
theorem d_Side_presses_22 : decode b_Side_presses 22 = .ok (.iaload, 1) := by decide +kernel
theorem d_Side_presses_23 : decode b_Side_presses 23 = .ok (.invokevirtual 46, 3) := by decide +kernel
theorem d_Side_presses_26 : decode b_Side_presses 26 = .ok (.ireturn, 1) := by decide +kernel
section S_Side_presses
variable {p : Program} {l : Launch} {e : Env} {s : State} {m : MethodId} {args : Array Value} {below : List Frame} {meth : Method} {c : Code} {D : va_G} {cA : Nat → ClassId} {ad : Nat → Nat} {A : Nat → Prop} {r : Int32} {τ : St}
def F_Side_presses_0 (s0 : St) (v0 : Nat) (v1 : Nat) : Option (Int32 × St) := (if P_Arm (s0.2 v0 4) then (ob2 (F_Text_says s0 v1 (0 : Int32) (v0 + 1)) (fun r_2 s_3 => (some ((F_Arm_forceOf s_3 (s0.2 v0 4) r_2 (s_3.1 v0 1) (s_3.1 (v0 + 1) 4)), s_3)))) else none)
set_option maxHeartbeats 4000000 in
set_option maxRecDepth 100000 in
theorem q_Side_presses_0 (K : Fx p s m args meth c b_Side_presses 2 R_Side (some .int))  : ∀ (H : Heap) (locs : List Loc) (ls : Array Slot) (s0 : St) (v0 : Nat) (v1 : Nat) (g_v0 : P_Side v0) (g_v1 : P_Text v1), Wh D cA ad shC A s s0 H locs → lv_has ls 2 [(0, .ref (ad v0)), (1, .ref (ad v1))] → F_Side_presses_0 s0 v0 v1 = (some (r, τ)) → W p l e rm_Side_presses s m args below meth c H locs 0 0 (MQ below (QcI D cA ad shC A r τ) args s 0 0 A) (F0 m 0 ls []) := by
  have hx := K.1.1; have hb := K.1.2.1
  intro H locs ls s0 v0 v1 g_v0 g_v1 hw hl hF
  unfold F_Side_presses_0 at hF
  refine lv_aload_n hx hb d_Side_presses_0 rfl (lv_at hl 0 rfl) ?_
  obtain ⟨g_1, hF⟩ := ifG hF
  refine r_get (v := .ref (ad (s0.2 v0 4))) K hw i_Side (sh_Side g_v0) rfl 4 (by decide) w_518 rfl rfl rfl d_Side_presses_1 ?_
  refine lv_aload_n hx hb d_Side_presses_4 rfl (lv_at hl 1 rfl) ?_
  refine lv_iconst (v := 0) hx hb d_Side_presses_5 (by decide) ?_
  refine lv_aload_n hx hb d_Side_presses_6 rfl (lv_at hl 0 rfl) ?_
  refine r_get (v := .ref (ad (v0 + 1))) K hw i_Side (sh_Side g_v0) rfl 0 (by decide) w_508 rfl rfl rfl d_Side_presses_7 ?_
  obtain ⟨r_2, s_3, h_s_3, hF⟩ := ob2E hF
  refine r_callVI (As := [.int (0 : Int32), .ref (ad (v0 + 1))]) (rest := [.ref (ad (s0.2 v0 4))]) K hw hl.1 (c_Text_says (l := l) (D := D) (cA := cA) (ad := ad) (s0 := s0) g_v1 (P_namesOf g_v0) h_s_3) (sh_Text g_v1) rfl (tb_gV w_754 w_669 w_670 w_68 w_671) a_Text_says ⟨rfl, rfl, Nat.le_of_ble_eq_true rfl, Nat.le_of_ble_eq_true rfl⟩ rfl rfl (Nat.le_of_ble_eq_true rfl) d_Side_presses_10 (fun H locs hw => ?_)
  refine lv_aload_n hx hb d_Side_presses_13 rfl (lv_at hl 0 rfl) ?_
  refine r_get (v := .int (s_3.1 v0 1)) K hw i_Side (sh_Side g_v0) rfl 1 (by decide) w_511 rfl rfl rfl d_Side_presses_14 ?_
  refine lv_aload_n hx hb d_Side_presses_17 rfl (lv_at hl 0 rfl) ?_
  refine r_get (v := .ref (ad (v0 + 1))) K hw i_Side (sh_Side g_v0) rfl 0 (by decide) w_508 rfl rfl rfl d_Side_presses_18 ?_
  refine lv_iconst (v := 4) hx hb d_Side_presses_21 (by decide) ?_
  refine r_iald (k := 4) K hw (show shC[(v0 + 1)]? = some (.inr (.inl 6)) from (sh_namesOf g_v0)) (by decide) (inB_vp (by decide)) d_Side_presses_22 ?_
  refine r_callVI (As := [.int r_2, .int (s_3.1 v0 1), .int (s_3.1 (v0 + 1) 4)]) (rest := []) K hw hl.1 (c_Arm_forceOf (l := l) (D := D) (cA := cA) (ad := ad) (s0 := s_3) g_1 rfl) (sh_Arm g_1) rfl (tb_gV w_755 w_756 w_757 w_66 w_758) a_Arm_forceOf ⟨rfl, rfl, Nat.le_of_ble_eq_true rfl, Nat.le_of_ble_eq_true rfl⟩ rfl rfl (Nat.le_of_ble_eq_true rfl) d_Side_presses_23 (fun H locs hw => ?_)
  obtain ⟨hF, hG⟩ := sE2 hF
  subst hF
  subst hG
  exact r_iret K hw d_Side_presses_26
end S_Side_presses
abbrev F_Side_presses := F_Side_presses_0
theorem c_Side_presses {l : Launch} {D : va_G} {cA : Nat → ClassId} {ad : Nat → Nat} {s0 τ : St} {r : Int32} {v0 : Nat} {v1 : Nat} (g_v0 : P_Side v0) (g_v1 : P_Text v1) (hF : F_Side_presses s0 v0 v1 = (some (r, τ))) : MI l D cA ad shC y_Side_presses (wT y_Side_presses b_Side_presses 2 (some .int)) rm_Side_presses [.ref (ad v0), .ref (ad v1)] s0 r τ := fun sz => m_start (Qc := fun A => QcI D cA ad shC A r τ) (by decide +kernel) w_753 (Nat.le_of_ble_eq_true rfl) (fun p e s m below meth c ls K hl hw => q_Side_presses_0 K _ _ _ _ _ _ g_v0 g_v1 hw hl hF)

/-! Arm.spendsOf(II)I -/
abbrev b_Arm_spendsOf : ByteArray := prog_2_method_5_code
def y_Arm_spendsOf : MethodName := ⟨R_Arm, "spendsOf", "(II)I"⟩
theorem a_Arm_spendsOf : y_Arm_spendsOf.cls = R_Arm ∧ y_Arm_spendsOf.cls ≠ "java/lang/invoke/MethodHandle" ∧ y_Arm_spendsOf.cls ≠ "java/lang/invoke/VarHandle" ∧ (parseMethodDescriptor y_Arm_spendsOf.desc).map (fun d => d.parameters.length) = some 2 := by decide +kernel
abbrev rm_Arm_spendsOf : Room := { frames := 1, cells := 0, slots := 0, locals := 22 }
theorem w_769 : Cond.code y_Arm_spendsOf b_Arm_spendsOf 4 (some .int) ∈ TB := tb_in 769 (by decide +kernel) (by decide +kernel)
theorem d_Arm_spendsOf_0 : decode b_Arm_spendsOf 0 = .ok (.iload_n 1, 1) := by decide +kernel
theorem d_Arm_spendsOf_1 : decode b_Arm_spendsOf 1 = .ok (.istore_n 3, 1) := by decide +kernel
theorem d_Arm_spendsOf_2 : decode b_Arm_spendsOf 2 = .ok (.aload_n 0, 1) := by decide +kernel
theorem d_Arm_spendsOf_3 : decode b_Arm_spendsOf 3 = .ok (.getfield 35, 3) := by decide +kernel
theorem d_Arm_spendsOf_6 : decode b_Arm_spendsOf 6 = .ok (.ifCond .eq 11, 3) := by decide +kernel
theorem d_Arm_spendsOf_9 : decode b_Arm_spendsOf 9 = .ok (.iload_n 2, 1) := by decide +kernel
theorem d_Arm_spendsOf_10 : decode b_Arm_spendsOf 10 = .ok (.iconst 3, 1) := by decide +kernel
theorem d_Arm_spendsOf_11 : decode b_Arm_spendsOf 11 = .ok (.if_icmp .ne 6, 3) := by decide +kernel
theorem d_Arm_spendsOf_14 : decode b_Arm_spendsOf 14 = .ok (.iinc 3 1, 3) := by decide +kernel
theorem d_Arm_spendsOf_17 : decode b_Arm_spendsOf 17 = .ok (.aload_n 0, 1) := by decide +kernel
theorem d_Arm_spendsOf_18 : decode b_Arm_spendsOf 18 = .ok (.getfield 41, 3) := by decide +kernel
theorem d_Arm_spendsOf_21 : decode b_Arm_spendsOf 21 = .ok (.ifCond .eq 7, 3) := by decide +kernel
theorem d_Arm_spendsOf_24 : decode b_Arm_spendsOf 24 = .ok (.iload_n 3, 1) := by decide +kernel
theorem d_Arm_spendsOf_25 : decode b_Arm_spendsOf 25 = .ok (.iconst 2, 1) := by decide +kernel
theorem d_Arm_spendsOf_26 : decode b_Arm_spendsOf 26 = .ok (.imul, 1) := by decide +kernel
theorem d_Arm_spendsOf_27 : decode b_Arm_spendsOf 27 = .ok (.istore_n 3, 1) := by decide +kernel
theorem d_Arm_spendsOf_28 : decode b_Arm_spendsOf 28 = .ok (.iload_n 3, 1) := by decide +kernel
theorem d_Arm_spendsOf_29 : decode b_Arm_spendsOf 29 = .ok (.iconst 0, 1) := by decide +kernel
theorem d_Arm_spendsOf_30 : decode b_Arm_spendsOf 30 = .ok (.bipush 24, 2) := by decide +kernel
theorem d_Arm_spendsOf_32 : decode b_Arm_spendsOf 32 = .ok (.invokestatic 61, 3) := by decide +kernel
theorem d_Arm_spendsOf_35 : decode b_Arm_spendsOf 35 = .ok (.ireturn, 1) := by decide +kernel
section S_Arm_spendsOf
variable {p : Program} {l : Launch} {e : Env} {s : State} {m : MethodId} {args : Array Value} {below : List Frame} {meth : Method} {c : Code} {D : va_G} {cA : Nat → ClassId} {ad : Nat → Nat} {A : Nat → Prop} {r : Int32} {τ : St}
def F_Arm_spendsOf_28 (s0 : St) (v3 : Int32) : Int32 := (F_Main_bounded v3 (0 : Int32) (24 : Int32))
set_option maxHeartbeats 4000000 in
set_option maxRecDepth 100000 in
theorem q_Arm_spendsOf_28 (s0 : St) (K : Fx p s m args meth c b_Arm_spendsOf 4 R_Arm (some .int))  : ∀ (H : Heap) (locs : List Loc) (ls : Array Slot) (v3 : Int32), Wh D cA ad shC A s s0 H locs → lv_has ls 4 [(3, .int v3)] → F_Arm_spendsOf_28 s0 v3 = r → W p l e rm_Arm_spendsOf s m args below meth c H locs 0 0 (MQ below (QcI D cA ad shC A r s0) args s 0 0 A) (F0 m 28 ls []) := by
  have hx := K.1.1; have hb := K.1.2.1
  intro H locs ls v3 hw hl hF
  unfold F_Arm_spendsOf_28 at hF
  refine lv_iload_n hx hb d_Arm_spendsOf_28 rfl (lv_at hl 0 rfl) ?_
  refine lv_iconst (v := 0) hx hb d_Arm_spendsOf_29 (by decide) ?_
  refine lv_bipush (v := 24) hx hb d_Arm_spendsOf_30 (by decide) ?_
  refine r_callNI (As := [.int v3, .int (0 : Int32), .int (24 : Int32)]) (rest := []) K hw hl.1 (c_Main_bounded (l := l) (D := D) (cA := cA) (ad := ad) (s0 := s0)  rfl) (nw_759) w_683 w_63 w_684 a_Main_bounded.2 ⟨rfl, rfl, Nat.le_of_ble_eq_true rfl, Nat.le_of_ble_eq_true rfl⟩ rfl rfl (Nat.le_of_ble_eq_true rfl) d_Arm_spendsOf_32 (fun H locs hw => ?_)
  subst hF
  exact r_iret K hw d_Arm_spendsOf_35
def F_Arm_spendsOf_17 (s0 : St) (v0 : Nat) (v3 : Int32) : Int32 := (if (s0.1 v0 9) = 0 then (F_Arm_spendsOf_28 s0 v3) else (F_Arm_spendsOf_28 s0 (v3 * (2 : Int32))))
set_option maxHeartbeats 4000000 in
set_option maxRecDepth 100000 in
theorem q_Arm_spendsOf_17 (s0 : St) (K : Fx p s m args meth c b_Arm_spendsOf 4 R_Arm (some .int))  : ∀ (H : Heap) (locs : List Loc) (ls : Array Slot) (v0 : Nat) (v3 : Int32) (g_v0 : P_Arm v0), Wh D cA ad shC A s s0 H locs → lv_has ls 4 [(0, .ref (ad v0)), (3, .int v3)] → F_Arm_spendsOf_17 s0 v0 v3 = r → W p l e rm_Arm_spendsOf s m args below meth c H locs 0 0 (MQ below (QcI D cA ad shC A r s0) args s 0 0 A) (F0 m 17 ls []) := by
  have hx := K.1.1; have hb := K.1.2.1
  intro H locs ls v0 v3 g_v0 hw hl hF
  unfold F_Arm_spendsOf_17 at hF
  refine lv_aload_n hx hb d_Arm_spendsOf_17 rfl (lv_at hl 0 rfl) ?_
  refine r_get (v := .int (s0.1 v0 9)) K hw i_Arm (sh_Arm g_v0) rfl 9 (by decide) w_162 rfl rfl rfl d_Arm_spendsOf_18 ?_
  refine lv_if_eq (tgt := 28) hx hb d_Arm_spendsOf_21 (by decide) (fun c_2 => ?_) (fun c_2 => ?_)
  · replace hF := ifT hF c_2
    exact q_Arm_spendsOf_28 s0 K _ _ _ _  hw (lv_sub hl [1] rfl) hF
  · replace hF := ifF hF c_2
    refine lv_iload_n hx hb d_Arm_spendsOf_24 rfl (lv_at hl 1 rfl) ?_
    refine lv_iconst (v := 2) hx hb d_Arm_spendsOf_25 (by decide) ?_
    refine lv_imul hx hb d_Arm_spendsOf_26 ?_
    refine lv_istore_n (lv' := [(3, .int (v3 * (2 : Int32))), (0, .ref (ad v0))]) hx hb d_Arm_spendsOf_27 rfl hl (by decide) rfl (fun ls hl => ?_)
    exact q_Arm_spendsOf_28 s0 K _ _ _ _  hw (lv_sub hl [0] rfl) hF
def F_Arm_spendsOf_0 (s0 : St) (v0 : Nat) (v1 : Int32) (v2 : Int32) : Int32 := (if (s0.1 v0 7) = 0 then (F_Arm_spendsOf_17 s0 v0 v1) else (if ¬ v2 = (3 : Int32) then (F_Arm_spendsOf_17 s0 v0 v1) else (F_Arm_spendsOf_17 s0 v0 (v1 + 1))))
set_option maxHeartbeats 4000000 in
set_option maxRecDepth 100000 in
theorem q_Arm_spendsOf_0 (s0 : St) (K : Fx p s m args meth c b_Arm_spendsOf 4 R_Arm (some .int))  : ∀ (H : Heap) (locs : List Loc) (ls : Array Slot) (v0 : Nat) (v1 : Int32) (v2 : Int32) (g_v0 : P_Arm v0), Wh D cA ad shC A s s0 H locs → lv_has ls 4 [(0, .ref (ad v0)), (1, .int v1), (2, .int v2)] → F_Arm_spendsOf_0 s0 v0 v1 v2 = r → W p l e rm_Arm_spendsOf s m args below meth c H locs 0 0 (MQ below (QcI D cA ad shC A r s0) args s 0 0 A) (F0 m 0 ls []) := by
  have hx := K.1.1; have hb := K.1.2.1
  intro H locs ls v0 v1 v2 g_v0 hw hl hF
  unfold F_Arm_spendsOf_0 at hF
  refine lv_iload_n hx hb d_Arm_spendsOf_0 rfl (lv_at hl 1 rfl) ?_
  refine lv_istore_n (lv' := [(3, .int v1), (0, .ref (ad v0)), (1, .int v1), (2, .int v2)]) hx hb d_Arm_spendsOf_1 rfl hl (by decide) rfl (fun ls hl => ?_)
  refine lv_aload_n hx hb d_Arm_spendsOf_2 rfl (lv_at hl 1 rfl) ?_
  refine r_get (v := .int (s0.1 v0 7)) K hw i_Arm (sh_Arm g_v0) rfl 7 (by decide) w_160 rfl rfl rfl d_Arm_spendsOf_3 ?_
  refine lv_if_eq (tgt := 17) hx hb d_Arm_spendsOf_6 (by decide) (fun c_1 => ?_) (fun c_1 => ?_)
  · replace hF := ifT hF c_1
    exact q_Arm_spendsOf_17 s0 K _ _ _ _ _ g_v0 hw (lv_sub hl [1, 0] rfl) hF
  · replace hF := ifF hF c_1
    refine lv_iload_n hx hb d_Arm_spendsOf_9 rfl (lv_at hl 3 rfl) ?_
    refine lv_iconst (v := 3) hx hb d_Arm_spendsOf_10 (by decide) ?_
    refine lv_icmp_ne (tgt := 17) hx hb d_Arm_spendsOf_11 (by decide) (fun c_3 => ?_) (fun c_3 => ?_)
    · replace hF := ifT hF c_3
      exact q_Arm_spendsOf_17 s0 K _ _ _ _ _ g_v0 hw (lv_sub hl [1, 0] rfl) hF
    · replace hF := ifN hF c_3
      refine lv_iinc (v := (v1 + 1)) (lv' := [(3, .int (v1 + 1)), (0, .ref (ad v0)), (1, .int v1), (2, .int v2)]) hx hb d_Arm_spendsOf_14 hl (k := 0) rfl rfl (by decide) rfl (fun ls hl => ?_)
      exact q_Arm_spendsOf_17 s0 K _ _ _ _ _ g_v0 hw (lv_sub hl [1, 0] rfl) hF
end S_Arm_spendsOf
abbrev F_Arm_spendsOf := F_Arm_spendsOf_0
theorem c_Arm_spendsOf {l : Launch} {D : va_G} {cA : Nat → ClassId} {ad : Nat → Nat} {s0 : St} {r : Int32} {v0 : Nat} {v1 : Int32} {v2 : Int32} (g_v0 : P_Arm v0) (hF : F_Arm_spendsOf s0 v0 v1 v2 = r) : MI l D cA ad shC y_Arm_spendsOf (wT y_Arm_spendsOf b_Arm_spendsOf 4 (some .int)) rm_Arm_spendsOf [.ref (ad v0), .int v1, .int v2] s0 r s0 := fun sz => m_start (Qc := fun A => QcI D cA ad shC A r s0) (by decide +kernel) w_769 (Nat.le_of_ble_eq_true rfl) (fun p e s m below meth c ls K hl hw => q_Arm_spendsOf_0 s0 K _ _ _ _ _ _ g_v0 hw hl hF)

/-! Side.tires(LText;)V -/
abbrev b_Side_tires : ByteArray := prog_8_method_6_code
def y_Side_tires : MethodName := ⟨R_Side, "tires", "(LArmAgainstArm$Text;)V"⟩
theorem a_Side_tires : y_Side_tires.cls = R_Side ∧ y_Side_tires.cls ≠ "java/lang/invoke/MethodHandle" ∧ y_Side_tires.cls ≠ "java/lang/invoke/VarHandle" ∧ (parseMethodDescriptor y_Side_tires.desc).map (fun d => d.parameters.length) = some 1 := by decide +kernel
abbrev rm_Side_tires : Room := { frames := 3, cells := 0, slots := 0, locals := 70 }
theorem w_766 : Cond.methodLink R_Side 50 y_Arm_spendsOf ∈ TB := tb_in 766 (by decide +kernel) (by decide +kernel)
theorem w_767 : Cond.instanceMethod y_Arm_spendsOf ∈ TB := tb_in 767 (by decide +kernel) (by decide +kernel)
theorem w_768 : Cond.selects R_Arm y_Arm_spendsOf y_Arm_spendsOf ∈ TB := tb_in 768 (by decide +kernel) (by decide +kernel)
theorem w_765 : Cond.code y_Side_tires b_Side_tires 4 none ∈ TB := tb_in 765 (by decide +kernel) (by decide +kernel)
theorem nw_770 : Cond.methodLinkNest R_Side 54 y_Main_bounded R_Main ∈ NWS := List.mem_of_getElem? (i := 9) (by decide +kernel)
theorem d_Side_tires_0 : decode b_Side_tires 0 = .ok (.aload_n 0, 1) := by decide +kernel
theorem d_Side_tires_1 : decode b_Side_tires 1 = .ok (.getfield 11, 3) := by decide +kernel
theorem d_Side_tires_4 : decode b_Side_tires 4 = .ok (.iconst 3, 1) := by decide +kernel
theorem d_Side_tires_5 : decode b_Side_tires 5 = .ok (.iaload, 1) := by decide +kernel
theorem d_Side_tires_6 : decode b_Side_tires 6 = .ok (.istore_n 2, 1) := by decide +kernel
theorem d_Side_tires_7 : decode b_Side_tires 7 = .ok (.iload_n 2, 1) := by decide +kernel
theorem d_Side_tires_8 : decode b_Side_tires 8 = .ok (.ifCond .ne 7, 3) := by decide +kernel
theorem d_Side_tires_11 : decode b_Side_tires 11 = .ok (.iconst 1, 1) := by decide +kernel
theorem d_Side_tires_12 : decode b_Side_tires 12 = .ok (.goto 21, 3) := by decide +kernel
theorem d_Side_tires_15 : decode b_Side_tires 15 = .ok (.aload_n 0, 1) := by decide +kernel
theorem d_Side_tires_16 : decode b_Side_tires 16 = .ok (.getfield 17, 3) := by decide +kernel
theorem d_Side_tires_19 : decode b_Side_tires 19 = .ok (.aload_n 1, 1) := by decide +kernel
theorem d_Side_tires_20 : decode b_Side_tires 20 = .ok (.iconst 1, 1) := by decide +kernel
theorem d_Side_tires_21 : decode b_Side_tires 21 = .ok (.aload_n 0, 1) := by decide +kernel
theorem d_Side_tires_22 : decode b_Side_tires 22 = .ok (.getfield 11, 3) := by decide +kernel
theorem d_Side_tires_25 : decode b_Side_tires 25 = .ok (.invokevirtual 42, 3) := by decide +kernel
theorem d_Side_tires_28 : decode b_Side_tires 28 = .ok (.iload_n 2, 1) := by decide +kernel
theorem d_Side_tires_29 : decode b_Side_tires 29 = .ok (.invokevirtual 50, 3) := by decide +kernel
theorem d_Side_tires_32 : decode b_Side_tires 32 = .ok (.ineg, 1) := by decide +kernel
theorem d_Side_tires_33 : decode b_Side_tires 33 = .ok (.istore_n 3, 1) := by decide +kernel
theorem d_Side_tires_34 : decode b_Side_tires 34 = .ok (.aload_n 0, 1) := by decide +kernel
theorem d_Side_tires_35 : decode b_Side_tires 35 = .ok (.aload_n 0, 1) := by decide +kernel
theorem d_Side_tires_36 : decode b_Side_tires 36 = .ok (.getfield 27, 3) := by decide +kernel
theorem d_Side_tires_39 : decode b_Side_tires 39 = .ok (.iload_n 3, 1) := by decide +kernel
theorem d_Side_tires_40 : decode b_Side_tires 40 = .ok (.iadd, 1) := by decide +kernel
theorem d_Side_tires_41 : decode b_Side_tires 41 = .ok (.iconst 0, 1) := by decide +kernel
theorem d_Side_tires_42 : decode b_Side_tires 42 = .ok (.bipush 24, 2) := by decide +kernel
theorem d_Side_tires_44 : decode b_Side_tires 44 = .ok (.invokestatic 54, 3) := by decide +kernel
theorem d_Side_tires_47 : decode b_Side_tires 47 = .ok (.putfield 27, 3) := by decide +kernel
theorem d_Side_tires_50 : decode b_Side_tires 50 = .ok (.return_, 1) := by decide +kernel
section S_Side_tires
variable {p : Program} {l : Launch} {e : Env} {s : State} {m : MethodId} {args : Array Value} {below : List Frame} {meth : Method} {c : Code} {D : va_G} {cA : Nat → ClassId} {ad : Nat → Nat} {A : Nat → Prop} {τ : St}
def F_Side_tires_33 (s0 : St) (v0 : Nat) (t0 : Int32) : Option St := (lt (up1 s0 v0 1 (F_Main_bounded ((s0.1 v0 1) + t0) (0 : Int32) (24 : Int32))) (fun s_5 => (some s_5)))
set_option maxHeartbeats 4000000 in
set_option maxRecDepth 100000 in
theorem q_Side_tires_33 (K : Fx p s m args meth c b_Side_tires 4 R_Side none)  : ∀ (H : Heap) (locs : List Loc) (ls : Array Slot) (s0 : St) (v0 : Nat) (t0 : Int32) (g_v0 : P_Side v0), Wh D cA ad shC A s s0 H locs → lv_has ls 4 [(0, .ref (ad v0))] → F_Side_tires_33 s0 v0 t0 = (some τ) → W p l e rm_Side_tires s m args below meth c H locs 0 0 (MQ below (QcV D cA ad shC A τ) args s 0 0 A) (F0 m 33 ls [.int t0]) := by
  have hx := K.1.1; have hb := K.1.2.1
  intro H locs ls s0 v0 t0 g_v0 hw hl hF
  unfold F_Side_tires_33 at hF
  refine lv_istore_n (lv' := [(3, .int t0), (0, .ref (ad v0))]) hx hb d_Side_tires_33 rfl hl (by decide) rfl (fun ls hl => ?_)
  refine lv_aload_n hx hb d_Side_tires_34 rfl (lv_at hl 1 rfl) ?_
  refine lv_aload_n hx hb d_Side_tires_35 rfl (lv_at hl 1 rfl) ?_
  refine r_get (v := .int (s0.1 v0 1)) K hw i_Side (sh_Side g_v0) rfl 1 (by decide) w_511 rfl rfl rfl d_Side_tires_36 ?_
  refine lv_iload_n hx hb d_Side_tires_39 rfl (lv_at hl 0 rfl) ?_
  refine lv_iadd hx hb d_Side_tires_40 ?_
  refine lv_iconst (v := 0) hx hb d_Side_tires_41 (by decide) ?_
  refine lv_bipush (v := 24) hx hb d_Side_tires_42 (by decide) ?_
  refine r_callNI (As := [.int ((s0.1 v0 1) + t0), .int (0 : Int32), .int (24 : Int32)]) (rest := [.ref (ad v0)]) K hw hl.1 (c_Main_bounded (l := l) (D := D) (cA := cA) (ad := ad) (s0 := s0)  rfl) (nw_770) w_683 w_63 w_684 a_Main_bounded.2 ⟨rfl, rfl, Nat.le_of_ble_eq_true rfl, Nat.le_of_ble_eq_true rfl⟩ rfl rfl (Nat.le_of_ble_eq_true rfl) d_Side_tires_44 (fun H locs hw => ?_)
  refine r_putI K hw i_Side t_Side t_Side_ok n_Side (sh_Side g_v0) rfl 1 (by decide) w_511 rfl rfl rfl rfl rfl d_Side_tires_47 (fun s_5 f_s_5 H locs hw => ?_)
  replace hF := ltN hF f_s_5
  replace hF := sE1 hF
  subst hF
  exact r_vret K hw d_Side_tires_50
def F_Side_tires_0 (s0 : St) (v0 : Nat) (v1 : Nat) : Option St := (if ¬ (s0.1 (v0 + 1) 3) = 0 then (if P_Arm (s0.2 v0 4) then (ob2 (F_Text_says s0 v1 (1 : Int32) (v0 + 1)) (fun r_3 s_4 => (F_Side_tires_33 s_4 v0 (-(F_Arm_spendsOf s_4 (s0.2 v0 4) r_3 (s0.1 (v0 + 1) 3)))))) else none) else (F_Side_tires_33 s0 v0 (1 : Int32)))
set_option maxHeartbeats 4000000 in
set_option maxRecDepth 100000 in
theorem q_Side_tires_0 (K : Fx p s m args meth c b_Side_tires 4 R_Side none)  : ∀ (H : Heap) (locs : List Loc) (ls : Array Slot) (s0 : St) (v0 : Nat) (v1 : Nat) (g_v0 : P_Side v0) (g_v1 : P_Text v1), Wh D cA ad shC A s s0 H locs → lv_has ls 4 [(0, .ref (ad v0)), (1, .ref (ad v1))] → F_Side_tires_0 s0 v0 v1 = (some τ) → W p l e rm_Side_tires s m args below meth c H locs 0 0 (MQ below (QcV D cA ad shC A τ) args s 0 0 A) (F0 m 0 ls []) := by
  have hx := K.1.1; have hb := K.1.2.1
  intro H locs ls s0 v0 v1 g_v0 g_v1 hw hl hF
  unfold F_Side_tires_0 at hF
  refine lv_aload_n hx hb d_Side_tires_0 rfl (lv_at hl 0 rfl) ?_
  refine r_get (v := .ref (ad (v0 + 1))) K hw i_Side (sh_Side g_v0) rfl 0 (by decide) w_508 rfl rfl rfl d_Side_tires_1 ?_
  refine lv_iconst (v := 3) hx hb d_Side_tires_4 (by decide) ?_
  refine r_iald (k := 3) K hw (show shC[(v0 + 1)]? = some (.inr (.inl 6)) from (sh_namesOf g_v0)) (by decide) (inB_vp (by decide)) d_Side_tires_5 ?_
  refine lv_istore_n (lv' := [(2, .int (s0.1 (v0 + 1) 3)), (0, .ref (ad v0)), (1, .ref (ad v1))]) hx hb d_Side_tires_6 rfl hl (by decide) rfl (fun ls hl => ?_)
  refine lv_iload_n hx hb d_Side_tires_7 rfl (lv_at hl 0 rfl) ?_
  refine lv_if_ne (tgt := 15) hx hb d_Side_tires_8 (by decide) (fun c_1 => ?_) (fun c_1 => ?_)
  · replace hF := ifT hF c_1
    refine lv_aload_n hx hb d_Side_tires_15 rfl (lv_at hl 1 rfl) ?_
    obtain ⟨g_2, hF⟩ := ifG hF
    refine r_get (v := .ref (ad (s0.2 v0 4))) K hw i_Side (sh_Side g_v0) rfl 4 (by decide) w_518 rfl rfl rfl d_Side_tires_16 ?_
    refine lv_aload_n hx hb d_Side_tires_19 rfl (lv_at hl 2 rfl) ?_
    refine lv_iconst (v := 1) hx hb d_Side_tires_20 (by decide) ?_
    refine lv_aload_n hx hb d_Side_tires_21 rfl (lv_at hl 1 rfl) ?_
    refine r_get (v := .ref (ad (v0 + 1))) K hw i_Side (sh_Side g_v0) rfl 0 (by decide) w_508 rfl rfl rfl d_Side_tires_22 ?_
    obtain ⟨r_3, s_4, h_s_4, hF⟩ := ob2E hF
    refine r_callVI (As := [.int (1 : Int32), .ref (ad (v0 + 1))]) (rest := [.ref (ad (s0.2 v0 4))]) K hw hl.1 (c_Text_says (l := l) (D := D) (cA := cA) (ad := ad) (s0 := s0) g_v1 (P_namesOf g_v0) h_s_4) (sh_Text g_v1) rfl (tb_gV w_754 w_669 w_670 w_68 w_671) a_Text_says ⟨rfl, rfl, Nat.le_of_ble_eq_true rfl, Nat.le_of_ble_eq_true rfl⟩ rfl rfl (Nat.le_of_ble_eq_true rfl) d_Side_tires_25 (fun H locs hw => ?_)
    refine lv_iload_n hx hb d_Side_tires_28 rfl (lv_at hl 0 rfl) ?_
    refine r_callVI (As := [.int r_3, .int (s0.1 (v0 + 1) 3)]) (rest := []) K hw hl.1 (c_Arm_spendsOf (l := l) (D := D) (cA := cA) (ad := ad) (s0 := s_4) g_2 rfl) (sh_Arm g_2) rfl (tb_gV w_766 w_767 w_768 w_66 w_769) a_Arm_spendsOf ⟨rfl, rfl, Nat.le_of_ble_eq_true rfl, Nat.le_of_ble_eq_true rfl⟩ rfl rfl (Nat.le_of_ble_eq_true rfl) d_Side_tires_29 (fun H locs hw => ?_)
    refine lv_ineg hx hb d_Side_tires_32 ?_
    exact q_Side_tires_33 K _ _ _ _ _ _ g_v0 hw (lv_sub hl [1] rfl) hF
  · replace hF := ifN hF c_1
    refine lv_iconst (v := 1) hx hb d_Side_tires_11 (by decide) ?_
    refine lv_goto (tgt := 33) hx hb d_Side_tires_12 (by decide) ?_
    exact q_Side_tires_33 K _ _ _ _ _ _ g_v0 hw (lv_sub hl [1] rfl) hF
end S_Side_tires
abbrev F_Side_tires := F_Side_tires_0
theorem c_Side_tires {l : Launch} {D : va_G} {cA : Nat → ClassId} {ad : Nat → Nat} {s0 τ : St} {v0 : Nat} {v1 : Nat} (g_v0 : P_Side v0) (g_v1 : P_Text v1) (hF : F_Side_tires s0 v0 v1 = (some τ)) : MV l D cA ad shC y_Side_tires (wT y_Side_tires b_Side_tires 4 none) rm_Side_tires [.ref (ad v0), .ref (ad v1)] s0 τ := fun sz => m_start (Qc := fun A => QcV D cA ad shC A τ) (by decide +kernel) w_765 (Nat.le_of_ble_eq_true rfl) (fun p e s m below meth c ls K hl hw => q_Side_tires_0 K _ _ _ _ _ _ g_v0 g_v1 hw hl hF)

/-! Bout.playTo(I)V -/
abbrev b_Bout_playTo : ByteArray := prog_3_method_4_code
def y_Bout_playTo : MethodName := ⟨R_Bout, "playTo", "(I)V"⟩
theorem a_Bout_playTo : y_Bout_playTo.cls = R_Bout ∧ y_Bout_playTo.cls ≠ "java/lang/invoke/MethodHandle" ∧ y_Bout_playTo.cls ≠ "java/lang/invoke/VarHandle" ∧ (parseMethodDescriptor y_Bout_playTo.desc).map (fun d => d.parameters.length) = some 1 := by decide +kernel
abbrev rm_Bout_playTo : Room := { frames := 4, cells := 0, slots := 0, locals := 93 }
theorem w_741 : Cond.methodLink R_Bout 44 y_Bout_isOver ∈ TB := tb_in 741 (by decide +kernel) (by decide +kernel)
theorem w_742 : Cond.instanceMethod y_Bout_isOver ∈ TB := tb_in 742 (by decide +kernel) (by decide +kernel)
theorem w_743 : Cond.selects R_Bout y_Bout_isOver y_Bout_isOver ∈ TB := tb_in 743 (by decide +kernel) (by decide +kernel)
theorem w_745 : Cond.methodLink R_Bout 48 y_Side_hardAt ∈ TB := tb_in 745 (by decide +kernel) (by decide +kernel)
theorem w_746 : Cond.instanceMethod y_Side_hardAt ∈ TB := tb_in 746 (by decide +kernel) (by decide +kernel)
theorem w_747 : Cond.selects R_Side y_Side_hardAt y_Side_hardAt ∈ TB := tb_in 747 (by decide +kernel) (by decide +kernel)
theorem w_749 : Cond.methodLink R_Bout 52 y_Side_looks ∈ TB := tb_in 749 (by decide +kernel) (by decide +kernel)
theorem w_750 : Cond.methodLink R_Bout 56 y_Side_presses ∈ TB := tb_in 750 (by decide +kernel) (by decide +kernel)
theorem w_751 : Cond.instanceMethod y_Side_presses ∈ TB := tb_in 751 (by decide +kernel) (by decide +kernel)
theorem w_752 : Cond.selects R_Side y_Side_presses y_Side_presses ∈ TB := tb_in 752 (by decide +kernel) (by decide +kernel)
theorem w_762 : Cond.methodLink R_Bout 76 y_Side_tires ∈ TB := tb_in 762 (by decide +kernel) (by decide +kernel)
theorem w_763 : Cond.instanceMethod y_Side_tires ∈ TB := tb_in 763 (by decide +kernel) (by decide +kernel)
theorem w_764 : Cond.selects R_Side y_Side_tires y_Side_tires ∈ TB := tb_in 764 (by decide +kernel) (by decide +kernel)
theorem w_509 : Cond.fieldLink R_Bout 60 R_Side "names" "[I" ∈ TB := tb_in 509 (by decide +kernel) (by decide +kernel)
theorem w_760 : Cond.methodLink R_Bout 64 y_Text_says ∈ TB := tb_in 760 (by decide +kernel) (by decide +kernel)
theorem w_761 : Cond.methodLink R_Bout 70 Lib.Math.max.name ∈ TB := tb_in 761 (by decide +kernel) (by decide +kernel)
theorem w_740 : Cond.code y_Bout_playTo b_Bout_playTo 4 none ∈ TB := tb_in 740 (by decide +kernel) (by decide +kernel)
theorem nw_771 : Cond.methodLinkNest R_Bout 80 y_Main_bounded R_Main ∈ NWS := List.mem_of_getElem? (i := 10) (by decide +kernel)
theorem d_Bout_playTo_0 : decode b_Bout_playTo 0 = .ok (.aload_n 0, 1) := by decide +kernel
theorem d_Bout_playTo_1 : decode b_Bout_playTo 1 = .ok (.getfield 34, 3) := by decide +kernel
theorem d_Bout_playTo_4 : decode b_Bout_playTo 4 = .ok (.istore_n 2, 1) := by decide +kernel
theorem d_Bout_playTo_5 : decode b_Bout_playTo 5 = .ok (.iload_n 2, 1) := by decide +kernel
theorem d_Bout_playTo_6 : decode b_Bout_playTo 6 = .ok (.iload_n 1, 1) := by decide +kernel
theorem d_Bout_playTo_7 : decode b_Bout_playTo 7 = .ok (.if_icmp .ge 169, 3) := by decide +kernel
theorem d_Bout_playTo_10 : decode b_Bout_playTo 10 = .ok (.iload_n 2, 1) := by decide +kernel
theorem d_Bout_playTo_11 : decode b_Bout_playTo 11 = .ok (.bipush 40, 2) := by decide +kernel
theorem d_Bout_playTo_13 : decode b_Bout_playTo 13 = .ok (.if_icmp .ge 163, 3) := by decide +kernel
theorem d_Bout_playTo_16 : decode b_Bout_playTo 16 = .ok (.aload_n 0, 1) := by decide +kernel
theorem d_Bout_playTo_17 : decode b_Bout_playTo 17 = .ok (.invokevirtual 44, 3) := by decide +kernel
theorem d_Bout_playTo_20 : decode b_Bout_playTo 20 = .ok (.ifCond .ne 156, 3) := by decide +kernel
theorem d_Bout_playTo_23 : decode b_Bout_playTo 23 = .ok (.aload_n 0, 1) := by decide +kernel
theorem d_Bout_playTo_24 : decode b_Bout_playTo 24 = .ok (.getfield 14, 3) := by decide +kernel
theorem d_Bout_playTo_27 : decode b_Bout_playTo 27 = .ok (.aload_n 0, 1) := by decide +kernel
theorem d_Bout_playTo_28 : decode b_Bout_playTo 28 = .ok (.getfield 14, 3) := by decide +kernel
theorem d_Bout_playTo_31 : decode b_Bout_playTo 31 = .ok (.iload_n 2, 1) := by decide +kernel
theorem d_Bout_playTo_32 : decode b_Bout_playTo 32 = .ok (.invokevirtual 48, 3) := by decide +kernel
theorem d_Bout_playTo_35 : decode b_Bout_playTo 35 = .ok (.aload_n 0, 1) := by decide +kernel
theorem d_Bout_playTo_36 : decode b_Bout_playTo 36 = .ok (.getfield 30, 3) := by decide +kernel
theorem d_Bout_playTo_39 : decode b_Bout_playTo 39 = .ok (.iload_n 2, 1) := by decide +kernel
theorem d_Bout_playTo_40 : decode b_Bout_playTo 40 = .ok (.invokevirtual 52, 3) := by decide +kernel
theorem d_Bout_playTo_43 : decode b_Bout_playTo 43 = .ok (.aload_n 0, 1) := by decide +kernel
theorem d_Bout_playTo_44 : decode b_Bout_playTo 44 = .ok (.getfield 20, 3) := by decide +kernel
theorem d_Bout_playTo_47 : decode b_Bout_playTo 47 = .ok (.aload_n 0, 1) := by decide +kernel
theorem d_Bout_playTo_48 : decode b_Bout_playTo 48 = .ok (.getfield 20, 3) := by decide +kernel
theorem d_Bout_playTo_51 : decode b_Bout_playTo 51 = .ok (.iload_n 2, 1) := by decide +kernel
theorem d_Bout_playTo_52 : decode b_Bout_playTo 52 = .ok (.invokevirtual 48, 3) := by decide +kernel
theorem d_Bout_playTo_55 : decode b_Bout_playTo 55 = .ok (.aload_n 0, 1) := by decide +kernel
theorem d_Bout_playTo_56 : decode b_Bout_playTo 56 = .ok (.getfield 30, 3) := by decide +kernel
theorem d_Bout_playTo_59 : decode b_Bout_playTo 59 = .ok (.ineg, 1) := by decide +kernel
theorem d_Bout_playTo_60 : decode b_Bout_playTo 60 = .ok (.iload_n 2, 1) := by decide +kernel
theorem d_Bout_playTo_61 : decode b_Bout_playTo 61 = .ok (.invokevirtual 52, 3) := by decide +kernel
theorem d_Bout_playTo_64 : decode b_Bout_playTo 64 = .ok (.aload_n 0, 1) := by decide +kernel
theorem d_Bout_playTo_65 : decode b_Bout_playTo 65 = .ok (.getfield 14, 3) := by decide +kernel
theorem d_Bout_playTo_68 : decode b_Bout_playTo 68 = .ok (.aload_n 0, 1) := by decide +kernel
theorem d_Bout_playTo_69 : decode b_Bout_playTo 69 = .ok (.getfield 23, 3) := by decide +kernel
theorem d_Bout_playTo_72 : decode b_Bout_playTo 72 = .ok (.invokevirtual 56, 3) := by decide +kernel
theorem d_Bout_playTo_75 : decode b_Bout_playTo 75 = .ok (.aload_n 0, 1) := by decide +kernel
theorem d_Bout_playTo_76 : decode b_Bout_playTo 76 = .ok (.getfield 20, 3) := by decide +kernel
theorem d_Bout_playTo_79 : decode b_Bout_playTo 79 = .ok (.aload_n 0, 1) := by decide +kernel
theorem d_Bout_playTo_80 : decode b_Bout_playTo 80 = .ok (.getfield 23, 3) := by decide +kernel
theorem d_Bout_playTo_83 : decode b_Bout_playTo 83 = .ok (.invokevirtual 56, 3) := by decide +kernel
theorem d_Bout_playTo_86 : decode b_Bout_playTo 86 = .ok (.isub, 1) := by decide +kernel
theorem d_Bout_playTo_87 : decode b_Bout_playTo 87 = .ok (.bipush 10, 2) := by decide +kernel
theorem d_Bout_playTo_89 : decode b_Bout_playTo 89 = .ok (.idiv, 1) := by decide +kernel
theorem d_Bout_playTo_90 : decode b_Bout_playTo 90 = .ok (.istore_n 3, 1) := by decide +kernel
theorem d_Bout_playTo_91 : decode b_Bout_playTo 91 = .ok (.aload_n 0, 1) := by decide +kernel
theorem d_Bout_playTo_92 : decode b_Bout_playTo 92 = .ok (.getfield 40, 3) := by decide +kernel
theorem d_Bout_playTo_95 : decode b_Bout_playTo 95 = .ok (.ifCond .eq 29, 3) := by decide +kernel
theorem d_Bout_playTo_98 : decode b_Bout_playTo 98 = .ok (.aload_n 0, 1) := by decide +kernel
theorem d_Bout_playTo_99 : decode b_Bout_playTo 99 = .ok (.aload_n 0, 1) := by decide +kernel
theorem d_Bout_playTo_100 : decode b_Bout_playTo 100 = .ok (.getfield 37, 3) := by decide +kernel
theorem d_Bout_playTo_103 : decode b_Bout_playTo 103 = .ok (.aload_n 0, 1) := by decide +kernel
theorem d_Bout_playTo_104 : decode b_Bout_playTo 104 = .ok (.getfield 23, 3) := by decide +kernel
theorem d_Bout_playTo_107 : decode b_Bout_playTo 107 = .ok (.iconst 2, 1) := by decide +kernel
theorem d_Bout_playTo_108 : decode b_Bout_playTo 108 = .ok (.aload_n 0, 1) := by decide +kernel
theorem d_Bout_playTo_109 : decode b_Bout_playTo 109 = .ok (.getfield 14, 3) := by decide +kernel
theorem d_Bout_playTo_112 : decode b_Bout_playTo 112 = .ok (.getfield 60, 3) := by decide +kernel
theorem d_Bout_playTo_115 : decode b_Bout_playTo 115 = .ok (.invokevirtual 64, 3) := by decide +kernel
theorem d_Bout_playTo_118 : decode b_Bout_playTo 118 = .ok (.invokestatic 70, 3) := by decide +kernel
theorem d_Bout_playTo_121 : decode b_Bout_playTo 121 = .ok (.putfield 37, 3) := by decide +kernel
theorem d_Bout_playTo_124 : decode b_Bout_playTo 124 = .ok (.aload_n 0, 1) := by decide +kernel
theorem d_Bout_playTo_125 : decode b_Bout_playTo 125 = .ok (.getfield 14, 3) := by decide +kernel
theorem d_Bout_playTo_128 : decode b_Bout_playTo 128 = .ok (.aload_n 0, 1) := by decide +kernel
theorem d_Bout_playTo_129 : decode b_Bout_playTo 129 = .ok (.getfield 23, 3) := by decide +kernel
theorem d_Bout_playTo_132 : decode b_Bout_playTo 132 = .ok (.invokevirtual 76, 3) := by decide +kernel
theorem d_Bout_playTo_135 : decode b_Bout_playTo 135 = .ok (.aload_n 0, 1) := by decide +kernel
theorem d_Bout_playTo_136 : decode b_Bout_playTo 136 = .ok (.getfield 20, 3) := by decide +kernel
theorem d_Bout_playTo_139 : decode b_Bout_playTo 139 = .ok (.aload_n 0, 1) := by decide +kernel
theorem d_Bout_playTo_140 : decode b_Bout_playTo 140 = .ok (.getfield 23, 3) := by decide +kernel
theorem d_Bout_playTo_143 : decode b_Bout_playTo 143 = .ok (.invokevirtual 76, 3) := by decide +kernel
theorem d_Bout_playTo_146 : decode b_Bout_playTo 146 = .ok (.aload_n 0, 1) := by decide +kernel
theorem d_Bout_playTo_147 : decode b_Bout_playTo 147 = .ok (.aload_n 0, 1) := by decide +kernel
theorem d_Bout_playTo_148 : decode b_Bout_playTo 148 = .ok (.getfield 30, 3) := by decide +kernel
theorem d_Bout_playTo_151 : decode b_Bout_playTo 151 = .ok (.iload_n 3, 1) := by decide +kernel
theorem d_Bout_playTo_152 : decode b_Bout_playTo 152 = .ok (.iadd, 1) := by decide +kernel
theorem d_Bout_playTo_153 : decode b_Bout_playTo 153 = .ok (.bipush (-30), 2) := by decide +kernel
theorem d_Bout_playTo_155 : decode b_Bout_playTo 155 = .ok (.bipush 30, 2) := by decide +kernel
theorem d_Bout_playTo_157 : decode b_Bout_playTo 157 = .ok (.invokestatic 80, 3) := by decide +kernel
theorem d_Bout_playTo_160 : decode b_Bout_playTo 160 = .ok (.putfield 30, 3) := by decide +kernel
theorem d_Bout_playTo_163 : decode b_Bout_playTo 163 = .ok (.aload_n 0, 1) := by decide +kernel
theorem d_Bout_playTo_164 : decode b_Bout_playTo 164 = .ok (.iload_n 2, 1) := by decide +kernel
theorem d_Bout_playTo_165 : decode b_Bout_playTo 165 = .ok (.iconst 1, 1) := by decide +kernel
theorem d_Bout_playTo_166 : decode b_Bout_playTo 166 = .ok (.iadd, 1) := by decide +kernel
theorem d_Bout_playTo_167 : decode b_Bout_playTo 167 = .ok (.putfield 34, 3) := by decide +kernel
theorem d_Bout_playTo_170 : decode b_Bout_playTo 170 = .ok (.iinc 2 1, 3) := by decide +kernel
theorem d_Bout_playTo_173 : decode b_Bout_playTo 173 = .ok (.goto (-168), 3) := by decide +kernel
theorem d_Bout_playTo_176 : decode b_Bout_playTo 176 = .ok (.return_, 1) := by decide +kernel
section S_Bout_playTo
variable {p : Program} {l : Launch} {e : Env} {s : State} {m : MethodId} {args : Array Value} {below : List Frame} {meth : Method} {c : Code} {D : va_G} {cA : Nat → ClassId} {ad : Nat → Nat} {A : Nat → Prop} {τ : St}
def F_Bout_playTo_124 (k3 : (St → Int32 → Int32 → Option St)) (s0 : St) (v1 : Int32) (v2 : Int32) (v3 : Int32) : Option St := (if P_Text (s0.2 11 2) then (ob1 (F_Side_tires s0 12 (s0.2 11 2)) (fun s_14 => (if P_Text (s_14.2 11 2) then (ob1 (F_Side_tires s_14 14 (s_14.2 11 2)) (fun s_16 => (lt (up1 s_16 11 3 (F_Main_bounded ((s_16.1 11 3) + v3) (-30 : Int32) (30 : Int32))) (fun s_17 => (lt (up1 s_17 11 4 (v2 + (1 : Int32))) (fun s_18 => (k3 s_18 v1 (v2 + 1)))))))) else none))) else none)
set_option maxHeartbeats 4000000 in
set_option maxRecDepth 100000 in
theorem q_Bout_playTo_124 (K : Fx p s m args meth c b_Bout_playTo 4 R_Bout none) (k3 : (St → Int32 → Int32 → Option St)) (hk3 : ∀ (H : Heap) (locs : List Loc) (ls : Array Slot) (s0 : St) (v1 : Int32) (v2 : Int32), Wh D cA ad shC A s s0 H locs → lv_has ls 4 [(0, .ref (ad 11)), (1, .int v1), (2, .int v2)] → k3 s0 v1 v2 = (some τ) → W p l e rm_Bout_playTo s m args below meth c H locs 0 0 (MQ below (QcV D cA ad shC A τ) args s 0 0 A) (F0 m 5 ls [])) : ∀ (H : Heap) (locs : List Loc) (ls : Array Slot) (s0 : St) (v1 : Int32) (v2 : Int32) (v3 : Int32), Wh D cA ad shC A s s0 H locs → lv_has ls 4 [(0, .ref (ad 11)), (1, .int v1), (2, .int v2), (3, .int v3)] → F_Bout_playTo_124 k3 s0 v1 v2 v3 = (some τ) → W p l e rm_Bout_playTo s m args below meth c H locs 0 0 (MQ below (QcV D cA ad shC A τ) args s 0 0 A) (F0 m 124 ls []) := by
  have hx := K.1.1; have hb := K.1.2.1
  intro H locs ls s0 v1 v2 v3 hw hl hF
  unfold F_Bout_playTo_124 at hF
  refine lv_aload_n hx hb d_Bout_playTo_124 rfl (lv_at hl 0 rfl) ?_
  refine r_get (v := .ref (ad 12)) K hw i_Bout sh_Bout rfl 0 (by decide) w_530 rfl rfl rfl d_Bout_playTo_125 ?_
  refine lv_aload_n hx hb d_Bout_playTo_128 rfl (lv_at hl 0 rfl) ?_
  obtain ⟨g_13, hF⟩ := ifG hF
  refine r_get (v := .ref (ad (s0.2 11 2))) K hw i_Bout sh_Bout rfl 2 (by decide) w_536 rfl rfl rfl d_Bout_playTo_129 ?_
  obtain ⟨s_14, h_s_14, hF⟩ := ob1E hF
  refine r_callVV (As := [.ref (ad (s0.2 11 2))]) (rest := []) K hw hl.1 (c_Side_tires (l := l) (D := D) (cA := cA) (ad := ad) (s0 := s0) (by decide) g_13 h_s_14) (sh_Side (by decide)) rfl (tb_gV w_762 w_763 w_764 w_78 w_765) a_Side_tires ⟨rfl, rfl, Nat.le_of_ble_eq_true rfl, Nat.le_of_ble_eq_true rfl⟩ rfl rfl (Nat.le_of_ble_eq_true rfl) d_Bout_playTo_132 (fun H locs hw => ?_)
  refine lv_aload_n hx hb d_Bout_playTo_135 rfl (lv_at hl 0 rfl) ?_
  refine r_get (v := .ref (ad 14)) K hw i_Bout sh_Bout rfl 1 (by decide) w_533 rfl rfl rfl d_Bout_playTo_136 ?_
  refine lv_aload_n hx hb d_Bout_playTo_139 rfl (lv_at hl 0 rfl) ?_
  obtain ⟨g_15, hF⟩ := ifG hF
  refine r_get (v := .ref (ad (s_14.2 11 2))) K hw i_Bout sh_Bout rfl 2 (by decide) w_536 rfl rfl rfl d_Bout_playTo_140 ?_
  obtain ⟨s_16, h_s_16, hF⟩ := ob1E hF
  refine r_callVV (As := [.ref (ad (s_14.2 11 2))]) (rest := []) K hw hl.1 (c_Side_tires (l := l) (D := D) (cA := cA) (ad := ad) (s0 := s_14) (by decide) g_15 h_s_16) (sh_Side (by decide)) rfl (tb_gV w_762 w_763 w_764 w_78 w_765) a_Side_tires ⟨rfl, rfl, Nat.le_of_ble_eq_true rfl, Nat.le_of_ble_eq_true rfl⟩ rfl rfl (Nat.le_of_ble_eq_true rfl) d_Bout_playTo_143 (fun H locs hw => ?_)
  refine lv_aload_n hx hb d_Bout_playTo_146 rfl (lv_at hl 0 rfl) ?_
  refine lv_aload_n hx hb d_Bout_playTo_147 rfl (lv_at hl 0 rfl) ?_
  refine r_get (v := .int (s_16.1 11 3)) K hw i_Bout sh_Bout rfl 3 (by decide) w_538 rfl rfl rfl d_Bout_playTo_148 ?_
  refine lv_iload_n hx hb d_Bout_playTo_151 rfl (lv_at hl 3 rfl) ?_
  refine lv_iadd hx hb d_Bout_playTo_152 ?_
  refine lv_bipush (v := -30) hx hb d_Bout_playTo_153 (by decide) ?_
  refine lv_bipush (v := 30) hx hb d_Bout_playTo_155 (by decide) ?_
  refine r_callNI (As := [.int ((s_16.1 11 3) + v3), .int (-30 : Int32), .int (30 : Int32)]) (rest := [.ref (ad 11)]) K hw hl.1 (c_Main_bounded (l := l) (D := D) (cA := cA) (ad := ad) (s0 := s_16)  rfl) (nw_771) w_683 w_63 w_684 a_Main_bounded.2 ⟨rfl, rfl, Nat.le_of_ble_eq_true rfl, Nat.le_of_ble_eq_true rfl⟩ rfl rfl (Nat.le_of_ble_eq_true rfl) d_Bout_playTo_157 (fun H locs hw => ?_)
  refine r_putI K hw i_Bout t_Bout t_Bout_ok n_Bout sh_Bout rfl 3 (by decide) w_538 rfl rfl rfl rfl rfl d_Bout_playTo_160 (fun s_17 f_s_17 H locs hw => ?_)
  replace hF := ltN hF f_s_17
  refine lv_aload_n hx hb d_Bout_playTo_163 rfl (lv_at hl 0 rfl) ?_
  refine lv_iload_n hx hb d_Bout_playTo_164 rfl (lv_at hl 2 rfl) ?_
  refine lv_iconst (v := 1) hx hb d_Bout_playTo_165 (by decide) ?_
  refine lv_iadd hx hb d_Bout_playTo_166 ?_
  refine r_putI K hw i_Bout t_Bout t_Bout_ok n_Bout sh_Bout rfl 4 (by decide) w_541 rfl rfl rfl rfl rfl d_Bout_playTo_167 (fun s_18 f_s_18 H locs hw => ?_)
  replace hF := ltN hF f_s_18
  refine lv_iinc (v := (v2 + 1)) (lv' := [(2, .int (v2 + 1)), (0, .ref (ad 11)), (1, .int v1), (3, .int v3)]) hx hb d_Bout_playTo_170 hl (k := 2) rfl rfl (by decide) rfl (fun ls hl => ?_)
  refine lv_goto (tgt := 5) hx hb d_Bout_playTo_173 (by decide) ?_
  exact hk3 _ _ _ _ _ _  hw (lv_sub hl [1, 2, 0] rfl) hF
def F_Bout_playTo_5 : Nat → St → Int32 → Int32 → Option St
  | 0, _, _, _ => none
  | n + 1, s0, v1, v2 => (if v1 ≤ v2 then (some s0) else (if (40 : Int32) ≤ v2 then (some s0) else (if ¬ (F_Bout_isOver s0 ) = 0 then (some s0) else (lt (F_Side_looks s0 12 (F_Side_hardAt s0 12 v2) (s0.1 11 3) v2) (fun s_4 => (lt (F_Side_looks s_4 14 (F_Side_hardAt s_4 14 v2) (-(s_4.1 11 3)) v2) (fun s_5 => (if P_Text (s_5.2 11 2) then (ob2 (F_Side_presses s_5 12 (s_5.2 11 2)) (fun r_7 s_8 => (if P_Text (s_8.2 11 2) then (ob2 (F_Side_presses s_8 14 (s_8.2 11 2)) (fun r_10 s_11 => (if (s_11.1 11 6) = 0 then (F_Bout_playTo_124 (fun z0 zv1 zv2 => F_Bout_playTo_5 n z0 zv1 zv2) s_11 v1 v2 ((r_7 - r_10) / (10 : Int32))) else (if P_Text (s_11.2 11 2) then (ob2 (F_Text_says s_11 (s_11.2 11 2) (2 : Int32) 13) (fun r_20 s_21 => (lt (up1 s_21 11 5 (if (s_11.1 11 5) < r_20 then r_20 else (s_11.1 11 5))) (fun s_22 => (F_Bout_playTo_124 (fun z0 zv1 zv2 => F_Bout_playTo_5 n z0 zv1 zv2) s_22 v1 v2 ((r_7 - r_10) / (10 : Int32))))))) else none)))) else none))) else none))))))))
set_option maxHeartbeats 4000000 in
set_option maxRecDepth 100000 in
theorem q_Bout_playTo_5 (K : Fx p s m args meth c b_Bout_playTo 4 R_Bout none)  : ∀ (n : Nat), ∀ (H : Heap) (locs : List Loc) (ls : Array Slot) (s0 : St) (v1 : Int32) (v2 : Int32), Wh D cA ad shC A s s0 H locs → lv_has ls 4 [(0, .ref (ad 11)), (1, .int v1), (2, .int v2)] → F_Bout_playTo_5 n s0 v1 v2 = (some τ) → W p l e rm_Bout_playTo s m args below meth c H locs 0 0 (MQ below (QcV D cA ad shC A τ) args s 0 0 A) (F0 m 5 ls []) := by
  have hx := K.1.1; have hb := K.1.2.1
  intro n
  induction n with
  | zero =>
    intro H locs ls s0 v1 v2 hw hl hF
    exact absurd hF (by rw [F_Bout_playTo_5]; exact nofun)
  | succ n ih =>
    intro H locs ls s0 v1 v2 hw hl hF
    rw [F_Bout_playTo_5] at hF
    refine lv_iload_n hx hb d_Bout_playTo_5 rfl (lv_at hl 2 rfl) ?_
    refine lv_iload_n hx hb d_Bout_playTo_6 rfl (lv_at hl 1 rfl) ?_
    refine lv_icmp_ge (tgt := 176) hx hb d_Bout_playTo_7 (by decide) (fun c_1 => ?_) (fun c_1 => ?_)
    · replace hF := ifT hF c_1
      replace hF := sE1 hF
      subst hF
      exact r_vret K hw d_Bout_playTo_176
    · replace hF := ifF hF c_1
      refine lv_iload_n hx hb d_Bout_playTo_10 rfl (lv_at hl 2 rfl) ?_
      refine lv_bipush (v := 40) hx hb d_Bout_playTo_11 (by decide) ?_
      refine lv_icmp_ge (tgt := 176) hx hb d_Bout_playTo_13 (by decide) (fun c_2 => ?_) (fun c_2 => ?_)
      · replace hF := ifT hF c_2
        replace hF := sE1 hF
        subst hF
        exact r_vret K hw d_Bout_playTo_176
      · replace hF := ifF hF c_2
        refine lv_aload_n hx hb d_Bout_playTo_16 rfl (lv_at hl 0 rfl) ?_
        refine r_callVI (As := []) (rest := []) K hw hl.1 (c_Bout_isOver (l := l) (D := D) (cA := cA) (ad := ad) (s0 := s0)  rfl) sh_Bout rfl (tb_gV w_741 w_742 w_743 w_77 w_744) a_Bout_isOver ⟨rfl, rfl, Nat.le_of_ble_eq_true rfl, Nat.le_of_ble_eq_true rfl⟩ rfl rfl (Nat.le_of_ble_eq_true rfl) d_Bout_playTo_17 (fun H locs hw => ?_)
        refine lv_if_ne (tgt := 176) hx hb d_Bout_playTo_20 (by decide) (fun c_3 => ?_) (fun c_3 => ?_)
        · replace hF := ifT hF c_3
          replace hF := sE1 hF
          subst hF
          exact r_vret K hw d_Bout_playTo_176
        · replace hF := ifN hF c_3
          refine lv_aload_n hx hb d_Bout_playTo_23 rfl (lv_at hl 0 rfl) ?_
          refine r_get (v := .ref (ad 12)) K hw i_Bout sh_Bout rfl 0 (by decide) w_530 rfl rfl rfl d_Bout_playTo_24 ?_
          refine lv_aload_n hx hb d_Bout_playTo_27 rfl (lv_at hl 0 rfl) ?_
          refine r_get (v := .ref (ad 12)) K hw i_Bout sh_Bout rfl 0 (by decide) w_530 rfl rfl rfl d_Bout_playTo_28 ?_
          refine lv_iload_n hx hb d_Bout_playTo_31 rfl (lv_at hl 2 rfl) ?_
          refine r_callVI (As := [.int v2]) (rest := [.ref (ad 12)]) K hw hl.1 (c_Side_hardAt (l := l) (D := D) (cA := cA) (ad := ad) (s0 := s0) (by decide) rfl) (sh_Side (by decide)) rfl (tb_gV w_745 w_746 w_747 w_78 w_748) a_Side_hardAt ⟨rfl, rfl, Nat.le_of_ble_eq_true rfl, Nat.le_of_ble_eq_true rfl⟩ rfl rfl (Nat.le_of_ble_eq_true rfl) d_Bout_playTo_32 (fun H locs hw => ?_)
          refine lv_aload_n hx hb d_Bout_playTo_35 rfl (lv_at hl 0 rfl) ?_
          refine r_get (v := .int (s0.1 11 3)) K hw i_Bout sh_Bout rfl 3 (by decide) w_538 rfl rfl rfl d_Bout_playTo_36 ?_
          refine lv_iload_n hx hb d_Bout_playTo_39 rfl (lv_at hl 2 rfl) ?_
          obtain ⟨s_4, e_s_4, hF⟩ := ltE hF
          refine r_callVV (As := [.int (F_Side_hardAt s0 12 v2), .int (s0.1 11 3), .int v2]) (rest := []) K hw hl.1 (c_Side_looks (l := l) (D := D) (cA := cA) (ad := ad) (s0 := s0) (by decide) e_s_4.symm) (sh_Side (by decide)) rfl (tb_gV w_749 w_665 w_666 w_78 w_667) a_Side_looks ⟨rfl, rfl, Nat.le_of_ble_eq_true rfl, Nat.le_of_ble_eq_true rfl⟩ rfl rfl (Nat.le_of_ble_eq_true rfl) d_Bout_playTo_40 (fun H locs hw => ?_)
          refine lv_aload_n hx hb d_Bout_playTo_43 rfl (lv_at hl 0 rfl) ?_
          refine r_get (v := .ref (ad 14)) K hw i_Bout sh_Bout rfl 1 (by decide) w_533 rfl rfl rfl d_Bout_playTo_44 ?_
          refine lv_aload_n hx hb d_Bout_playTo_47 rfl (lv_at hl 0 rfl) ?_
          refine r_get (v := .ref (ad 14)) K hw i_Bout sh_Bout rfl 1 (by decide) w_533 rfl rfl rfl d_Bout_playTo_48 ?_
          refine lv_iload_n hx hb d_Bout_playTo_51 rfl (lv_at hl 2 rfl) ?_
          refine r_callVI (As := [.int v2]) (rest := [.ref (ad 14)]) K hw hl.1 (c_Side_hardAt (l := l) (D := D) (cA := cA) (ad := ad) (s0 := s_4) (by decide) rfl) (sh_Side (by decide)) rfl (tb_gV w_745 w_746 w_747 w_78 w_748) a_Side_hardAt ⟨rfl, rfl, Nat.le_of_ble_eq_true rfl, Nat.le_of_ble_eq_true rfl⟩ rfl rfl (Nat.le_of_ble_eq_true rfl) d_Bout_playTo_52 (fun H locs hw => ?_)
          refine lv_aload_n hx hb d_Bout_playTo_55 rfl (lv_at hl 0 rfl) ?_
          refine r_get (v := .int (s_4.1 11 3)) K hw i_Bout sh_Bout rfl 3 (by decide) w_538 rfl rfl rfl d_Bout_playTo_56 ?_
          refine lv_ineg hx hb d_Bout_playTo_59 ?_
          refine lv_iload_n hx hb d_Bout_playTo_60 rfl (lv_at hl 2 rfl) ?_
          obtain ⟨s_5, e_s_5, hF⟩ := ltE hF
          refine r_callVV (As := [.int (F_Side_hardAt s_4 14 v2), .int (-(s_4.1 11 3)), .int v2]) (rest := []) K hw hl.1 (c_Side_looks (l := l) (D := D) (cA := cA) (ad := ad) (s0 := s_4) (by decide) e_s_5.symm) (sh_Side (by decide)) rfl (tb_gV w_749 w_665 w_666 w_78 w_667) a_Side_looks ⟨rfl, rfl, Nat.le_of_ble_eq_true rfl, Nat.le_of_ble_eq_true rfl⟩ rfl rfl (Nat.le_of_ble_eq_true rfl) d_Bout_playTo_61 (fun H locs hw => ?_)
          refine lv_aload_n hx hb d_Bout_playTo_64 rfl (lv_at hl 0 rfl) ?_
          refine r_get (v := .ref (ad 12)) K hw i_Bout sh_Bout rfl 0 (by decide) w_530 rfl rfl rfl d_Bout_playTo_65 ?_
          refine lv_aload_n hx hb d_Bout_playTo_68 rfl (lv_at hl 0 rfl) ?_
          obtain ⟨g_6, hF⟩ := ifG hF
          refine r_get (v := .ref (ad (s_5.2 11 2))) K hw i_Bout sh_Bout rfl 2 (by decide) w_536 rfl rfl rfl d_Bout_playTo_69 ?_
          obtain ⟨r_7, s_8, h_s_8, hF⟩ := ob2E hF
          refine r_callVI (As := [.ref (ad (s_5.2 11 2))]) (rest := []) K hw hl.1 (c_Side_presses (l := l) (D := D) (cA := cA) (ad := ad) (s0 := s_5) (by decide) g_6 h_s_8) (sh_Side (by decide)) rfl (tb_gV w_750 w_751 w_752 w_78 w_753) a_Side_presses ⟨rfl, rfl, Nat.le_of_ble_eq_true rfl, Nat.le_of_ble_eq_true rfl⟩ rfl rfl (Nat.le_of_ble_eq_true rfl) d_Bout_playTo_72 (fun H locs hw => ?_)
          refine lv_aload_n hx hb d_Bout_playTo_75 rfl (lv_at hl 0 rfl) ?_
          refine r_get (v := .ref (ad 14)) K hw i_Bout sh_Bout rfl 1 (by decide) w_533 rfl rfl rfl d_Bout_playTo_76 ?_
          refine lv_aload_n hx hb d_Bout_playTo_79 rfl (lv_at hl 0 rfl) ?_
          obtain ⟨g_9, hF⟩ := ifG hF
          refine r_get (v := .ref (ad (s_8.2 11 2))) K hw i_Bout sh_Bout rfl 2 (by decide) w_536 rfl rfl rfl d_Bout_playTo_80 ?_
          obtain ⟨r_10, s_11, h_s_11, hF⟩ := ob2E hF
          refine r_callVI (As := [.ref (ad (s_8.2 11 2))]) (rest := [.int r_7]) K hw hl.1 (c_Side_presses (l := l) (D := D) (cA := cA) (ad := ad) (s0 := s_8) (by decide) g_9 h_s_11) (sh_Side (by decide)) rfl (tb_gV w_750 w_751 w_752 w_78 w_753) a_Side_presses ⟨rfl, rfl, Nat.le_of_ble_eq_true rfl, Nat.le_of_ble_eq_true rfl⟩ rfl rfl (Nat.le_of_ble_eq_true rfl) d_Bout_playTo_83 (fun H locs hw => ?_)
          refine lv_isub hx hb d_Bout_playTo_86 ?_
          refine lv_bipush (v := 10) hx hb d_Bout_playTo_87 (by decide) ?_
          refine lv_idiv hx hb d_Bout_playTo_89 (by decide) ?_
          refine lv_istore_n (lv' := [(3, .int ((r_7 - r_10) / (10 : Int32))), (0, .ref (ad 11)), (1, .int v1), (2, .int v2)]) hx hb d_Bout_playTo_90 rfl hl (by decide) rfl (fun ls hl => ?_)
          refine lv_aload_n hx hb d_Bout_playTo_91 rfl (lv_at hl 1 rfl) ?_
          refine r_get (v := .int (s_11.1 11 6)) K hw i_Bout sh_Bout rfl 6 (by decide) w_546 rfl rfl rfl d_Bout_playTo_92 ?_
          refine lv_if_eq (tgt := 124) hx hb d_Bout_playTo_95 (by decide) (fun c_12 => ?_) (fun c_12 => ?_)
          · replace hF := ifT hF c_12
            exact q_Bout_playTo_124 K (fun z0 zv1 zv2 => F_Bout_playTo_5 n z0 zv1 zv2) ih _ _ _ _ _ _ _  hw (lv_sub hl [1, 2, 3, 0] rfl) hF
          · replace hF := ifF hF c_12
            refine lv_aload_n hx hb d_Bout_playTo_98 rfl (lv_at hl 1 rfl) ?_
            refine lv_aload_n hx hb d_Bout_playTo_99 rfl (lv_at hl 1 rfl) ?_
            refine r_get (v := .int (s_11.1 11 5)) K hw i_Bout sh_Bout rfl 5 (by decide) w_544 rfl rfl rfl d_Bout_playTo_100 ?_
            refine lv_aload_n hx hb d_Bout_playTo_103 rfl (lv_at hl 1 rfl) ?_
            obtain ⟨g_19, hF⟩ := ifG hF
            refine r_get (v := .ref (ad (s_11.2 11 2))) K hw i_Bout sh_Bout rfl 2 (by decide) w_536 rfl rfl rfl d_Bout_playTo_104 ?_
            refine lv_iconst (v := 2) hx hb d_Bout_playTo_107 (by decide) ?_
            refine lv_aload_n hx hb d_Bout_playTo_108 rfl (lv_at hl 1 rfl) ?_
            refine r_get (v := .ref (ad 12)) K hw i_Bout sh_Bout rfl 0 (by decide) w_530 rfl rfl rfl d_Bout_playTo_109 ?_
            refine r_get (v := .ref (ad 13)) K hw i_Side (sh_Side (by decide)) rfl 0 (by decide) w_509 rfl rfl rfl d_Bout_playTo_112 ?_
            obtain ⟨r_20, s_21, h_s_21, hF⟩ := ob2E hF
            refine r_callVI (As := [.int (2 : Int32), .ref (ad 13)]) (rest := [.int (s_11.1 11 5), .ref (ad 11)]) K hw hl.1 (c_Text_says (l := l) (D := D) (cA := cA) (ad := ad) (s0 := s_11) g_19 (P_namesOf (by decide)) h_s_21) (sh_Text g_19) rfl (tb_gV w_760 w_669 w_670 w_68 w_671) a_Text_says ⟨rfl, rfl, Nat.le_of_ble_eq_true rfl, Nat.le_of_ble_eq_true rfl⟩ rfl rfl (Nat.le_of_ble_eq_true rfl) d_Bout_playTo_115 (fun H locs hw => ?_)
            refine va_mmax (rest := [.ref (ad 11)]) hx hb (K.1.2.2.1.trans hl.1.symm) K.1.2.2.2.1 (K.1.2.2.2.2 _ w_761) (K.1.2.2.2.2 _ w_394) (K.1.2.2.2.2 _ w_75) (K.1.2.2.2.2 _ w_395) (Nat.le_of_ble_eq_true rfl) (Nat.le_of_ble_eq_true rfl) (Nat.zero_le _) (Nat.zero_le _) d_Bout_playTo_118 ?_
            refine r_putI K hw i_Bout t_Bout t_Bout_ok n_Bout sh_Bout rfl 5 (by decide) w_544 rfl rfl rfl rfl rfl d_Bout_playTo_121 (fun s_22 f_s_22 H locs hw => ?_)
            replace hF := ltN hF f_s_22
            exact q_Bout_playTo_124 K (fun z0 zv1 zv2 => F_Bout_playTo_5 n z0 zv1 zv2) ih _ _ _ _ _ _ _  hw (lv_sub hl [1, 2, 3, 0] rfl) hF
def F_Bout_playTo_0 (s0 : St) (v1 : Int32) : Option St := (F_Bout_playTo_5 FU s0 v1 (s0.1 11 4))
set_option maxHeartbeats 4000000 in
set_option maxRecDepth 100000 in
theorem q_Bout_playTo_0 (K : Fx p s m args meth c b_Bout_playTo 4 R_Bout none)  : ∀ (H : Heap) (locs : List Loc) (ls : Array Slot) (s0 : St) (v1 : Int32), Wh D cA ad shC A s s0 H locs → lv_has ls 4 [(0, .ref (ad 11)), (1, .int v1)] → F_Bout_playTo_0 s0 v1 = (some τ) → W p l e rm_Bout_playTo s m args below meth c H locs 0 0 (MQ below (QcV D cA ad shC A τ) args s 0 0 A) (F0 m 0 ls []) := by
  have hx := K.1.1; have hb := K.1.2.1
  intro H locs ls s0 v1 hw hl hF
  unfold F_Bout_playTo_0 at hF
  refine lv_aload_n hx hb d_Bout_playTo_0 rfl (lv_at hl 0 rfl) ?_
  refine r_get (v := .int (s0.1 11 4)) K hw i_Bout sh_Bout rfl 4 (by decide) w_541 rfl rfl rfl d_Bout_playTo_1 ?_
  refine lv_istore_n (lv' := [(2, .int (s0.1 11 4)), (0, .ref (ad 11)), (1, .int v1)]) hx hb d_Bout_playTo_4 rfl hl (by decide) rfl (fun ls hl => ?_)
  exact q_Bout_playTo_5 K FU _ _ _ _ _ _  hw (lv_sub hl [1, 2, 0] rfl) hF
end S_Bout_playTo
abbrev F_Bout_playTo := F_Bout_playTo_0
theorem c_Bout_playTo {l : Launch} {D : va_G} {cA : Nat → ClassId} {ad : Nat → Nat} {s0 τ : St} {v1 : Int32}  (hF : F_Bout_playTo s0 v1 = (some τ)) : MV l D cA ad shC y_Bout_playTo (wT y_Bout_playTo b_Bout_playTo 4 none) rm_Bout_playTo [.ref (ad 11), .int v1] s0 τ := fun sz => m_start (Qc := fun A => QcV D cA ad shC A τ) (by decide +kernel) w_740 (Nat.le_of_ble_eq_true rfl) (fun p e s m below meth c ls K hl hw => q_Bout_playTo_0 K _ _ _ _ _  hw hl hF)

/-! Main.match(III)I -/
abbrev b_Main_match : ByteArray := prog_1_method_10_code
def y_Main_match : MethodName := ⟨R_Main, "match", "(III)I"⟩
theorem a_Main_match : y_Main_match.cls = R_Main ∧ y_Main_match.cls ≠ "java/lang/invoke/MethodHandle" ∧ y_Main_match.cls ≠ "java/lang/invoke/VarHandle" ∧ (parseMethodDescriptor y_Main_match.desc).map (fun d => d.parameters.length) = some 3 := by decide +kernel
abbrev rm_Main_match : Room := { frames := 5, cells := 0, slots := 0, locals := 116 }
theorem w_720 : Cond.methodLink R_Main 171 y_Main_tellsTwo ∈ TB := tb_in 720 (by decide +kernel) (by decide +kernel)
theorem w_722 : Cond.instanceMethod y_Main_tellsTwo ∈ TB := tb_in 722 (by decide +kernel) (by decide +kernel)
theorem w_16 : Cond.selects R_Main y_Main_tellsTwo y_Main_tellsTwo ∈ TB := tb_in 16 (by decide +kernel) (by decide +kernel)
theorem w_728 : Cond.methodLink R_Main 174 y_Main_opn ∈ TB := tb_in 728 (by decide +kernel) (by decide +kernel)
theorem w_730 : Cond.instanceMethod y_Main_opn ∈ TB := tb_in 730 (by decide +kernel) (by decide +kernel)
theorem w_18 : Cond.selects R_Main y_Main_opn y_Main_opn ∈ TB := tb_in 18 (by decide +kernel) (by decide +kernel)
theorem w_547 : Cond.fieldLink R_Main 178 R_Bout "watched" "Z" ∈ TB := tb_in 547 (by decide +kernel) (by decide +kernel)
theorem w_737 : Cond.methodLink R_Main 182 y_Bout_playTo ∈ TB := tb_in 737 (by decide +kernel) (by decide +kernel)
theorem w_738 : Cond.instanceMethod y_Bout_playTo ∈ TB := tb_in 738 (by decide +kernel) (by decide +kernel)
theorem w_739 : Cond.selects R_Bout y_Bout_playTo y_Bout_playTo ∈ TB := tb_in 739 (by decide +kernel) (by decide +kernel)
theorem w_540 : Cond.fieldLink R_Main 185 R_Bout "angle" "I" ∈ TB := tb_in 540 (by decide +kernel) (by decide +kernel)
theorem w_535 : Cond.fieldLink R_Main 188 R_Bout "b" "LArmAgainstArm$Side;" ∈ TB := tb_in 535 (by decide +kernel) (by decide +kernel)
theorem w_545 : Cond.fieldLink R_Main 191 R_Bout "hurt" "I" ∈ TB := tb_in 545 (by decide +kernel) (by decide +kernel)
theorem w_719 : Cond.code y_Main_match b_Main_match 4 (some .int) ∈ TB := tb_in 719 (by decide +kernel) (by decide +kernel)
theorem d_Main_match_0 : decode b_Main_match 0 = .ok (.aload_n 0, 1) := by decide +kernel
theorem d_Main_match_1 : decode b_Main_match 1 = .ok (.iload_n 1, 1) := by decide +kernel
theorem d_Main_match_2 : decode b_Main_match 2 = .ok (.invokevirtual 171, 3) := by decide +kernel
theorem d_Main_match_5 : decode b_Main_match 5 = .ok (.ifCond .ne 6, 3) := by decide +kernel
theorem d_Main_match_8 : decode b_Main_match 8 = .ok (.bipush (-100), 2) := by decide +kernel
theorem d_Main_match_10 : decode b_Main_match 10 = .ok (.ireturn, 1) := by decide +kernel
theorem d_Main_match_11 : decode b_Main_match 11 = .ok (.iload_n 2, 1) := by decide +kernel
theorem d_Main_match_12 : decode b_Main_match 12 = .ok (.iconst 0, 1) := by decide +kernel
theorem d_Main_match_13 : decode b_Main_match 13 = .ok (.bipush 40, 2) := by decide +kernel
theorem d_Main_match_15 : decode b_Main_match 15 = .ok (.invokestatic 108, 3) := by decide +kernel
theorem d_Main_match_18 : decode b_Main_match 18 = .ok (.ifCond .eq 12, 3) := by decide +kernel
theorem d_Main_match_21 : decode b_Main_match 21 = .ok (.iload_n 3, 1) := by decide +kernel
theorem d_Main_match_22 : decode b_Main_match 22 = .ok (.iconst 0, 1) := by decide +kernel
theorem d_Main_match_23 : decode b_Main_match 23 = .ok (.iconst 3, 1) := by decide +kernel
theorem d_Main_match_24 : decode b_Main_match 24 = .ok (.invokestatic 108, 3) := by decide +kernel
theorem d_Main_match_27 : decode b_Main_match 27 = .ok (.ifCond .ne 7, 3) := by decide +kernel
theorem d_Main_match_30 : decode b_Main_match 30 = .ok (.sipush (-200), 3) := by decide +kernel
theorem d_Main_match_33 : decode b_Main_match 33 = .ok (.ireturn, 1) := by decide +kernel
theorem d_Main_match_34 : decode b_Main_match 34 = .ok (.aload_n 0, 1) := by decide +kernel
theorem d_Main_match_35 : decode b_Main_match 35 = .ok (.iload_n 1, 1) := by decide +kernel
theorem d_Main_match_36 : decode b_Main_match 36 = .ok (.bipush 10, 2) := by decide +kernel
theorem d_Main_match_38 : decode b_Main_match 38 = .ok (.idiv, 1) := by decide +kernel
theorem d_Main_match_39 : decode b_Main_match 39 = .ok (.iload_n 1, 1) := by decide +kernel
theorem d_Main_match_40 : decode b_Main_match 40 = .ok (.bipush 10, 2) := by decide +kernel
theorem d_Main_match_42 : decode b_Main_match 42 = .ok (.irem, 1) := by decide +kernel
theorem d_Main_match_43 : decode b_Main_match 43 = .ok (.invokevirtual 174, 3) := by decide +kernel
theorem d_Main_match_46 : decode b_Main_match 46 = .ok (.aload_n 0, 1) := by decide +kernel
theorem d_Main_match_47 : decode b_Main_match 47 = .ok (.getfield 86, 3) := by decide +kernel
theorem d_Main_match_50 : decode b_Main_match 50 = .ok (.iload_n 3, 1) := by decide +kernel
theorem d_Main_match_51 : decode b_Main_match 51 = .ok (.iconst 3, 1) := by decide +kernel
theorem d_Main_match_52 : decode b_Main_match 52 = .ok (.if_icmp .ne 7, 3) := by decide +kernel
theorem d_Main_match_55 : decode b_Main_match 55 = .ok (.iconst 1, 1) := by decide +kernel
theorem d_Main_match_56 : decode b_Main_match 56 = .ok (.goto 4, 3) := by decide +kernel
theorem d_Main_match_59 : decode b_Main_match 59 = .ok (.iconst 0, 1) := by decide +kernel
theorem d_Main_match_60 : decode b_Main_match 60 = .ok (.putfield 178, 3) := by decide +kernel
theorem d_Main_match_63 : decode b_Main_match 63 = .ok (.aload_n 0, 1) := by decide +kernel
theorem d_Main_match_64 : decode b_Main_match 64 = .ok (.getfield 86, 3) := by decide +kernel
theorem d_Main_match_67 : decode b_Main_match 67 = .ok (.iload_n 2, 1) := by decide +kernel
theorem d_Main_match_68 : decode b_Main_match 68 = .ok (.invokevirtual 182, 3) := by decide +kernel
theorem d_Main_match_71 : decode b_Main_match 71 = .ok (.iload_n 3, 1) := by decide +kernel
theorem d_Main_match_72 : decode b_Main_match 72 = .ok (.tableswitch 58 0 2 #[28, 36, 47], 28) := by decide +kernel
theorem d_Main_match_100 : decode b_Main_match 100 = .ok (.aload_n 0, 1) := by decide +kernel
theorem d_Main_match_101 : decode b_Main_match 101 = .ok (.getfield 86, 3) := by decide +kernel
theorem d_Main_match_104 : decode b_Main_match 104 = .ok (.getfield 185, 3) := by decide +kernel
theorem d_Main_match_107 : decode b_Main_match 107 = .ok (.ireturn, 1) := by decide +kernel
theorem d_Main_match_108 : decode b_Main_match 108 = .ok (.aload_n 0, 1) := by decide +kernel
theorem d_Main_match_109 : decode b_Main_match 109 = .ok (.getfield 86, 3) := by decide +kernel
theorem d_Main_match_112 : decode b_Main_match 112 = .ok (.getfield 123, 3) := by decide +kernel
theorem d_Main_match_115 : decode b_Main_match 115 = .ok (.getfield 133, 3) := by decide +kernel
theorem d_Main_match_118 : decode b_Main_match 118 = .ok (.ireturn, 1) := by decide +kernel
theorem d_Main_match_119 : decode b_Main_match 119 = .ok (.aload_n 0, 1) := by decide +kernel
theorem d_Main_match_120 : decode b_Main_match 120 = .ok (.getfield 86, 3) := by decide +kernel
theorem d_Main_match_123 : decode b_Main_match 123 = .ok (.getfield 188, 3) := by decide +kernel
theorem d_Main_match_126 : decode b_Main_match 126 = .ok (.getfield 133, 3) := by decide +kernel
theorem d_Main_match_129 : decode b_Main_match 129 = .ok (.ireturn, 1) := by decide +kernel
theorem d_Main_match_130 : decode b_Main_match 130 = .ok (.aload_n 0, 1) := by decide +kernel
theorem d_Main_match_131 : decode b_Main_match 131 = .ok (.getfield 86, 3) := by decide +kernel
theorem d_Main_match_134 : decode b_Main_match 134 = .ok (.getfield 191, 3) := by decide +kernel
theorem d_Main_match_137 : decode b_Main_match 137 = .ok (.ireturn, 1) := by decide +kernel
section S_Main_match
variable {p : Program} {l : Launch} {e : Env} {s : State} {m : MethodId} {args : Array Value} {below : List Frame} {meth : Method} {c : Code} {D : va_G} {cA : Nat → ClassId} {ad : Nat → Nat} {A : Nat → Prop} {r : Int32} {τ : St}
def F_Main_match_60 (s0 : St) (v2 : Int32) (v3 : Int32) (t1 : Int32) : Option (Int32 × St) := (if (t1 = 0 ∨ t1 = 1) then (lt (up1 s0 11 6 t1) (fun s_7 => (ob1 (F_Bout_playTo s_7 v2) (fun s_9 => (if v3 = 0 then (some ((s_9.1 11 3), s_9)) else (if v3 = 1 then (some ((s_9.1 12 1), s_9)) else (if v3 = 2 then (some ((s_9.1 14 1), s_9)) else (some ((s_9.1 11 5), s_9))))))))) else none)
set_option maxHeartbeats 4000000 in
set_option maxRecDepth 100000 in
theorem q_Main_match_60 (K : Fx p s m args meth c b_Main_match 4 R_Main (some .int))  : ∀ (H : Heap) (locs : List Loc) (ls : Array Slot) (s0 : St) (v2 : Int32) (v3 : Int32) (t1 : Int32), Wh D cA ad shC A s s0 H locs → lv_has ls 4 [(0, .ref (ad 0)), (2, .int v2), (3, .int v3)] → F_Main_match_60 s0 v2 v3 t1 = (some (r, τ)) → W p l e rm_Main_match s m args below meth c H locs 0 0 (MQ below (QcI D cA ad shC A r τ) args s 0 0 A) (F0 m 60 ls [.int t1, .ref (ad 11)]) := by
  have hx := K.1.1; have hb := K.1.2.1
  intro H locs ls s0 v2 v3 t1 hw hl hF
  unfold F_Main_match_60 at hF
  obtain ⟨g_8, hF⟩ := ifG hF
  refine r_putI K hw i_Bout t_Bout t_Bout_ok n_Bout sh_Bout rfl 6 (by decide) w_547 rfl rfl rfl (zN g_8) (zF g_8) d_Main_match_60 (fun s_7 f_s_7 H locs hw => ?_)
  replace hF := ltN hF f_s_7
  refine lv_aload_n hx hb d_Main_match_63 rfl (lv_at hl 0 rfl) ?_
  refine r_get (v := .ref (ad 11)) K hw i_Main sh_Main rfl 7 (by decide) w_605 rfl rfl rfl d_Main_match_64 ?_
  refine lv_iload_n hx hb d_Main_match_67 rfl (lv_at hl 1 rfl) ?_
  obtain ⟨s_9, h_s_9, hF⟩ := ob1E hF
  refine r_callVV (As := [.int v2]) (rest := []) K hw hl.1 (c_Bout_playTo (l := l) (D := D) (cA := cA) (ad := ad) (s0 := s_7)  h_s_9) sh_Bout rfl (tb_gV w_737 w_738 w_739 w_77 w_740) a_Bout_playTo ⟨rfl, rfl, Nat.le_of_ble_eq_true rfl, Nat.le_of_ble_eq_true rfl⟩ rfl rfl (Nat.le_of_ble_eq_true rfl) d_Main_match_68 (fun H locs hw => ?_)
  refine lv_iload_n hx hb d_Main_match_71 rfl (lv_at hl 2 rfl) ?_
  by_cases c_10 : v3 = 0
  · replace hF := ifT hF c_10
    refine lv_tableIn (tgt := 100) hx hb d_Main_match_72 (by rw [c_10]; decide) (by rw [c_10]; decide) (by rw [c_10]; rfl) (by decide) ?_
    refine lv_aload_n hx hb d_Main_match_100 rfl (lv_at hl 0 rfl) ?_
    refine r_get (v := .ref (ad 11)) K hw i_Main sh_Main rfl 7 (by decide) w_605 rfl rfl rfl d_Main_match_101 ?_
    refine r_get (v := .int (s_9.1 11 3)) K hw i_Bout sh_Bout rfl 3 (by decide) w_540 rfl rfl rfl d_Main_match_104 ?_
    obtain ⟨hF, hG⟩ := sE2 hF
    subst hF
    subst hG
    exact r_iret K hw d_Main_match_107
  replace hF := ifF hF c_10
  by_cases c_11 : v3 = 1
  · replace hF := ifT hF c_11
    refine lv_tableIn (tgt := 108) hx hb d_Main_match_72 (by rw [c_11]; decide) (by rw [c_11]; decide) (by rw [c_11]; rfl) (by decide) ?_
    refine lv_aload_n hx hb d_Main_match_108 rfl (lv_at hl 0 rfl) ?_
    refine r_get (v := .ref (ad 11)) K hw i_Main sh_Main rfl 7 (by decide) w_605 rfl rfl rfl d_Main_match_109 ?_
    refine r_get (v := .ref (ad 12)) K hw i_Bout sh_Bout rfl 0 (by decide) w_532 rfl rfl rfl d_Main_match_112 ?_
    refine r_get (v := .int (s_9.1 12 1)) K hw i_Side (sh_Side (by decide)) rfl 1 (by decide) w_513 rfl rfl rfl d_Main_match_115 ?_
    obtain ⟨hF, hG⟩ := sE2 hF
    subst hF
    subst hG
    exact r_iret K hw d_Main_match_118
  replace hF := ifF hF c_11
  by_cases c_12 : v3 = 2
  · replace hF := ifT hF c_12
    refine lv_tableIn (tgt := 119) hx hb d_Main_match_72 (by rw [c_12]; decide) (by rw [c_12]; decide) (by rw [c_12]; rfl) (by decide) ?_
    refine lv_aload_n hx hb d_Main_match_119 rfl (lv_at hl 0 rfl) ?_
    refine r_get (v := .ref (ad 11)) K hw i_Main sh_Main rfl 7 (by decide) w_605 rfl rfl rfl d_Main_match_120 ?_
    refine r_get (v := .ref (ad 14)) K hw i_Bout sh_Bout rfl 1 (by decide) w_535 rfl rfl rfl d_Main_match_123 ?_
    refine r_get (v := .int (s_9.1 14 1)) K hw i_Side (sh_Side (by decide)) rfl 1 (by decide) w_513 rfl rfl rfl d_Main_match_126 ?_
    obtain ⟨hF, hG⟩ := sE2 hF
    subst hF
    subst hG
    exact r_iret K hw d_Main_match_129
  replace hF := ifF hF c_12
  have nc_10 : ¬ (v3).toInt = 0 := lv_neT c_10 rfl
  have nc_11 : ¬ (v3).toInt = 1 := lv_neT c_11 rfl
  have nc_12 : ¬ (v3).toInt = 2 := lv_neT c_12 rfl
  refine lv_tableOut (tgt := 130) hx hb d_Main_match_72 (by omega) (by decide) ?_
  refine lv_aload_n hx hb d_Main_match_130 rfl (lv_at hl 0 rfl) ?_
  refine r_get (v := .ref (ad 11)) K hw i_Main sh_Main rfl 7 (by decide) w_605 rfl rfl rfl d_Main_match_131 ?_
  refine r_get (v := .int (s_9.1 11 5)) K hw i_Bout sh_Bout rfl 5 (by decide) w_545 rfl rfl rfl d_Main_match_134 ?_
  obtain ⟨hF, hG⟩ := sE2 hF
  subst hF
  subst hG
  exact r_iret K hw d_Main_match_137
def F_Main_match_0 (s0 : St) (v1 : Int32) (v2 : Int32) (v3 : Int32) : Option (Int32 × St) := (ob1 (F_Main_tellsTwo s0 v1) (fun r_1 => (if ¬ r_1 = 0 then (if (F_Main_isWithin v2 (0 : Int32) (40 : Int32)) = 0 then (some ((-200 : Int32), s0)) else (if ¬ (F_Main_isWithin v3 (0 : Int32) (3 : Int32)) = 0 then (ob1 (F_Main_opn s0 (v1 / (10 : Int32)) (jrem v1 (10 : Int32))) (fun s_5 => (if ¬ v3 = (3 : Int32) then (F_Main_match_60 s_5 v2 v3 (0 : Int32)) else (F_Main_match_60 s_5 v2 v3 (1 : Int32))))) else (some ((-200 : Int32), s0)))) else (some ((-100 : Int32), s0)))))
set_option maxHeartbeats 4000000 in
set_option maxRecDepth 100000 in
theorem q_Main_match_0 (K : Fx p s m args meth c b_Main_match 4 R_Main (some .int))  : ∀ (H : Heap) (locs : List Loc) (ls : Array Slot) (s0 : St) (v1 : Int32) (v2 : Int32) (v3 : Int32), Wh D cA ad shC A s s0 H locs → lv_has ls 4 [(0, .ref (ad 0)), (1, .int v1), (2, .int v2), (3, .int v3)] → F_Main_match_0 s0 v1 v2 v3 = (some (r, τ)) → W p l e rm_Main_match s m args below meth c H locs 0 0 (MQ below (QcI D cA ad shC A r τ) args s 0 0 A) (F0 m 0 ls []) := by
  have hx := K.1.1; have hb := K.1.2.1
  intro H locs ls s0 v1 v2 v3 hw hl hF
  unfold F_Main_match_0 at hF
  refine lv_aload_n hx hb d_Main_match_0 rfl (lv_at hl 0 rfl) ?_
  refine lv_iload_n hx hb d_Main_match_1 rfl (lv_at hl 1 rfl) ?_
  obtain ⟨r_1, h_r_1, hF⟩ := ob1E hF
  refine r_callVI (As := [.int v1]) (rest := []) K hw hl.1 (c_Main_tellsTwo (l := l) (D := D) (cA := cA) (ad := ad) (s0 := s0)  h_r_1) sh_Main rfl (tb_gV w_720 w_722 w_16 w_63 w_723) a_Main_tellsTwo ⟨rfl, rfl, Nat.le_of_ble_eq_true rfl, Nat.le_of_ble_eq_true rfl⟩ rfl rfl (Nat.le_of_ble_eq_true rfl) d_Main_match_2 (fun H locs hw => ?_)
  refine lv_if_ne (tgt := 11) hx hb d_Main_match_5 (by decide) (fun c_2 => ?_) (fun c_2 => ?_)
  · replace hF := ifT hF c_2
    refine lv_iload_n hx hb d_Main_match_11 rfl (lv_at hl 2 rfl) ?_
    refine lv_iconst (v := 0) hx hb d_Main_match_12 (by decide) ?_
    refine lv_bipush (v := 40) hx hb d_Main_match_13 (by decide) ?_
    refine r_callSI (As := [.int v2, .int (0 : Int32), .int (40 : Int32)]) (rest := []) K hw hl.1 (c_Main_isWithin (l := l) (D := D) (cA := cA) (ad := ad) (s0 := s0)  rfl) (tb_gS w_640 w_347 w_63 w_348) a_Main_isWithin ⟨rfl, rfl, Nat.le_of_ble_eq_true rfl, Nat.le_of_ble_eq_true rfl⟩ rfl rfl (Nat.le_of_ble_eq_true rfl) d_Main_match_15 (fun H locs hw => ?_)
    refine lv_if_eq (tgt := 30) hx hb d_Main_match_18 (by decide) (fun c_3 => ?_) (fun c_3 => ?_)
    · replace hF := ifT hF c_3
      refine lv_sipush (v := -200) hx hb d_Main_match_30 (by decide) ?_
      obtain ⟨hF, hG⟩ := sE2 hF
      subst hF
      subst hG
      exact r_iret K hw d_Main_match_33
    · replace hF := ifF hF c_3
      refine lv_iload_n hx hb d_Main_match_21 rfl (lv_at hl 3 rfl) ?_
      refine lv_iconst (v := 0) hx hb d_Main_match_22 (by decide) ?_
      refine lv_iconst (v := 3) hx hb d_Main_match_23 (by decide) ?_
      refine r_callSI (As := [.int v3, .int (0 : Int32), .int (3 : Int32)]) (rest := []) K hw hl.1 (c_Main_isWithin (l := l) (D := D) (cA := cA) (ad := ad) (s0 := s0)  rfl) (tb_gS w_640 w_347 w_63 w_348) a_Main_isWithin ⟨rfl, rfl, Nat.le_of_ble_eq_true rfl, Nat.le_of_ble_eq_true rfl⟩ rfl rfl (Nat.le_of_ble_eq_true rfl) d_Main_match_24 (fun H locs hw => ?_)
      refine lv_if_ne (tgt := 34) hx hb d_Main_match_27 (by decide) (fun c_4 => ?_) (fun c_4 => ?_)
      · replace hF := ifT hF c_4
        refine lv_aload_n hx hb d_Main_match_34 rfl (lv_at hl 0 rfl) ?_
        refine lv_iload_n hx hb d_Main_match_35 rfl (lv_at hl 1 rfl) ?_
        refine lv_bipush (v := 10) hx hb d_Main_match_36 (by decide) ?_
        refine lv_idiv hx hb d_Main_match_38 (by decide) ?_
        refine lv_iload_n hx hb d_Main_match_39 rfl (lv_at hl 1 rfl) ?_
        refine lv_bipush (v := 10) hx hb d_Main_match_40 (by decide) ?_
        refine lv_irem hx hb d_Main_match_42 (by decide) ?_
        obtain ⟨s_5, h_s_5, hF⟩ := ob1E hF
        refine r_callVV (As := [.int (v1 / (10 : Int32)), .int (jrem v1 (10 : Int32))]) (rest := []) K hw hl.1 (c_Main_opn (l := l) (D := D) (cA := cA) (ad := ad) (s0 := s0)  h_s_5) sh_Main rfl (tb_gV w_728 w_730 w_18 w_63 w_731) a_Main_opn ⟨rfl, rfl, Nat.le_of_ble_eq_true rfl, Nat.le_of_ble_eq_true rfl⟩ rfl rfl (Nat.le_of_ble_eq_true rfl) d_Main_match_43 (fun H locs hw => ?_)
        refine lv_aload_n hx hb d_Main_match_46 rfl (lv_at hl 0 rfl) ?_
        refine r_get (v := .ref (ad 11)) K hw i_Main sh_Main rfl 7 (by decide) w_605 rfl rfl rfl d_Main_match_47 ?_
        refine lv_iload_n hx hb d_Main_match_50 rfl (lv_at hl 3 rfl) ?_
        refine lv_iconst (v := 3) hx hb d_Main_match_51 (by decide) ?_
        refine lv_icmp_ne (tgt := 59) hx hb d_Main_match_52 (by decide) (fun c_6 => ?_) (fun c_6 => ?_)
        · replace hF := ifT hF c_6
          refine lv_iconst (v := 0) hx hb d_Main_match_59 (by decide) ?_
          exact q_Main_match_60 K _ _ _ _ _ _ _  hw (lv_sub hl [0, 2, 3] rfl) hF
        · replace hF := ifN hF c_6
          refine lv_iconst (v := 1) hx hb d_Main_match_55 (by decide) ?_
          refine lv_goto (tgt := 60) hx hb d_Main_match_56 (by decide) ?_
          exact q_Main_match_60 K _ _ _ _ _ _ _  hw (lv_sub hl [0, 2, 3] rfl) hF
      · replace hF := ifN hF c_4
        refine lv_sipush (v := -200) hx hb d_Main_match_30 (by decide) ?_
        obtain ⟨hF, hG⟩ := sE2 hF
        subst hF
        subst hG
        exact r_iret K hw d_Main_match_33
  · replace hF := ifN hF c_2
    refine lv_bipush (v := -100) hx hb d_Main_match_8 (by decide) ?_
    obtain ⟨hF, hG⟩ := sE2 hF
    subst hF
    subst hG
    exact r_iret K hw d_Main_match_10
end S_Main_match
abbrev F_Main_match := F_Main_match_0
theorem c_Main_match {l : Launch} {D : va_G} {cA : Nat → ClassId} {ad : Nat → Nat} {s0 τ : St} {r : Int32} {v1 : Int32} {v2 : Int32} {v3 : Int32}  (hF : F_Main_match s0 v1 v2 v3 = (some (r, τ))) : MI l D cA ad shC y_Main_match (wT y_Main_match b_Main_match 4 (some .int)) rm_Main_match [.ref (ad 0), .int v1, .int v2, .int v3] s0 r τ := fun sz => m_start (Qc := fun A => QcI D cA ad shC A r τ) (by decide +kernel) w_719 (Nat.le_of_ble_eq_true rfl) (fun p e s m below meth c ls K hl hw => q_Main_match_0 K _ _ _ _ _ _ _  hw hl hF)

/-! Main.winner(II)I -/
abbrev b_Main_winner : ByteArray := prog_1_method_47_code
def y_Main_winner : MethodName := ⟨R_Main, "winne\x72", "(II)I"⟩
theorem a_Main_winner : y_Main_winner.cls = R_Main ∧ y_Main_winner.cls ≠ "java/lang/invoke/MethodHandle" ∧ y_Main_winner.cls ≠ "java/lang/invoke/VarHandle" ∧ (parseMethodDescriptor y_Main_winner.desc).map (fun d => d.parameters.length) = some 2 := by decide +kernel
abbrev rm_Main_winner : Room := { frames := 0, cells := 0, slots := 0, locals := 0 }
theorem w_779 : Cond.code y_Main_winner b_Main_winner 3 (some .int) ∈ TB := tb_in 779 (by decide +kernel) (by decide +kernel)
theorem d_Main_winner_0 : decode b_Main_winner 0 = .ok (.aload_n 0, 1) := by decide +kernel
theorem d_Main_winner_1 : decode b_Main_winner 1 = .ok (.getfield 86, 3) := by decide +kernel
theorem d_Main_winner_4 : decode b_Main_winner 4 = .ok (.getfield 185, 3) := by decide +kernel
theorem d_Main_winner_7 : decode b_Main_winner 7 = .ok (.ifCond .ne 5, 3) := by decide +kernel
theorem d_Main_winner_10 : decode b_Main_winner 10 = .ok (.iconst (-1), 1) := by decide +kernel
theorem d_Main_winner_11 : decode b_Main_winner 11 = .ok (.ireturn, 1) := by decide +kernel
theorem d_Main_winner_12 : decode b_Main_winner 12 = .ok (.aload_n 0, 1) := by decide +kernel
theorem d_Main_winner_13 : decode b_Main_winner 13 = .ok (.getfield 86, 3) := by decide +kernel
theorem d_Main_winner_16 : decode b_Main_winner 16 = .ok (.getfield 185, 3) := by decide +kernel
theorem d_Main_winner_19 : decode b_Main_winner 19 = .ok (.ifCond .le 7, 3) := by decide +kernel
theorem d_Main_winner_22 : decode b_Main_winner 22 = .ok (.iload_n 1, 1) := by decide +kernel
theorem d_Main_winner_23 : decode b_Main_winner 23 = .ok (.goto 4, 3) := by decide +kernel
theorem d_Main_winner_26 : decode b_Main_winner 26 = .ok (.iload_n 2, 1) := by decide +kernel
theorem d_Main_winner_27 : decode b_Main_winner 27 = .ok (.ireturn, 1) := by decide +kernel
section S_Main_winner
variable {p : Program} {l : Launch} {e : Env} {s : State} {m : MethodId} {args : Array Value} {below : List Frame} {meth : Method} {c : Code} {D : va_G} {cA : Nat → ClassId} {ad : Nat → Nat} {A : Nat → Prop} {r : Int32} {τ : St}
def F_Main_winner_0 (s0 : St) (v1 : Int32) (v2 : Int32) : Int32 := (if ¬ (s0.1 11 3) = 0 then (if (s0.1 11 3) ≤ 0 then v2 else v1) else (-1 : Int32))
set_option maxHeartbeats 4000000 in
set_option maxRecDepth 100000 in
theorem q_Main_winner_0 (s0 : St) (K : Fx p s m args meth c b_Main_winner 3 R_Main (some .int))  : ∀ (H : Heap) (locs : List Loc) (ls : Array Slot) (v1 : Int32) (v2 : Int32), Wh D cA ad shC A s s0 H locs → lv_has ls 3 [(0, .ref (ad 0)), (1, .int v1), (2, .int v2)] → F_Main_winner_0 s0 v1 v2 = r → W p l e rm_Main_winner s m args below meth c H locs 0 0 (MQ below (QcI D cA ad shC A r s0) args s 0 0 A) (F0 m 0 ls []) := by
  have hx := K.1.1; have hb := K.1.2.1
  intro H locs ls v1 v2 hw hl hF
  unfold F_Main_winner_0 at hF
  refine lv_aload_n hx hb d_Main_winner_0 rfl (lv_at hl 0 rfl) ?_
  refine r_get (v := .ref (ad 11)) K hw i_Main sh_Main rfl 7 (by decide) w_605 rfl rfl rfl d_Main_winner_1 ?_
  refine r_get (v := .int (s0.1 11 3)) K hw i_Bout sh_Bout rfl 3 (by decide) w_540 rfl rfl rfl d_Main_winner_4 ?_
  refine lv_if_ne (tgt := 12) hx hb d_Main_winner_7 (by decide) (fun c_1 => ?_) (fun c_1 => ?_)
  · replace hF := ifT hF c_1
    refine lv_aload_n hx hb d_Main_winner_12 rfl (lv_at hl 0 rfl) ?_
    refine r_get (v := .ref (ad 11)) K hw i_Main sh_Main rfl 7 (by decide) w_605 rfl rfl rfl d_Main_winner_13 ?_
    refine r_get (v := .int (s0.1 11 3)) K hw i_Bout sh_Bout rfl 3 (by decide) w_540 rfl rfl rfl d_Main_winner_16 ?_
    refine lv_if_le (tgt := 26) hx hb d_Main_winner_19 (by decide) (fun c_2 => ?_) (fun c_2 => ?_)
    · replace hF := ifT hF c_2
      refine lv_iload_n hx hb d_Main_winner_26 rfl (lv_at hl 2 rfl) ?_
      subst hF
      exact r_iret K hw d_Main_winner_27
    · replace hF := ifF hF c_2
      refine lv_iload_n hx hb d_Main_winner_22 rfl (lv_at hl 1 rfl) ?_
      refine lv_goto (tgt := 27) hx hb d_Main_winner_23 (by decide) ?_
      subst hF
      exact r_iret K hw d_Main_winner_27
  · replace hF := ifN hF c_1
    refine lv_iconst (v := -1) hx hb d_Main_winner_10 (by decide) ?_
    subst hF
    exact r_iret K hw d_Main_winner_11
end S_Main_winner
abbrev F_Main_winner := F_Main_winner_0
theorem c_Main_winner {l : Launch} {D : va_G} {cA : Nat → ClassId} {ad : Nat → Nat} {s0 : St} {r : Int32} {v1 : Int32} {v2 : Int32}  (hF : F_Main_winner s0 v1 v2 = r) : MI l D cA ad shC y_Main_winner (wT y_Main_winner b_Main_winner 3 (some .int)) rm_Main_winner [.ref (ad 0), .int v1, .int v2] s0 r s0 := fun sz => m_start (Qc := fun A => QcI D cA ad shC A r s0) (by decide +kernel) w_779 (Nat.le_of_ble_eq_true rfl) (fun p e s m below meth c ls K hl hw => q_Main_winner_0 s0 K _ _ _ _ _  hw hl hF)
