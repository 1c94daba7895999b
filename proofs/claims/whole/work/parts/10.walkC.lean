/-! Main.count(I)I -/
abbrev b_Main_count : ByteArray := prog_1_method_2_code
def y_Main_count : MethodName := ⟨R_Main, "count", "(I)I"⟩
theorem a_Main_count : y_Main_count.cls = R_Main ∧ y_Main_count.cls ≠ "java/lang/invoke/MethodHandle" ∧ y_Main_count.cls ≠ "java/lang/invoke/VarHandle" ∧ (parseMethodDescriptor y_Main_count.desc).map (fun d => d.parameters.length) = some 1 := by decide +kernel
abbrev rm_Main_count : Room := { frames := 0, cells := 0, slots := 0, locals := 0 }
theorem w_599 : Cond.fieldLink R_Main 99 R_Main "armCount" "I" ∈ TB := tb_in 599 (by decide +kernel) (by decide +kernel)
theorem w_601 : Cond.fieldLink R_Main 77 R_Main "textCount" "I" ∈ TB := tb_in 601 (by decide +kernel) (by decide +kernel)
theorem w_602 : Cond.fieldLink R_Main 102 R_Main "lawNumbe\x72" "I" ∈ TB := tb_in 602 (by decide +kernel) (by decide +kernel)
theorem w_603 : Cond.fieldLink R_Main 24 R_Main "tape" "LArmAgainstArm$Tape;" ∈ TB := tb_in 603 (by decide +kernel) (by decide +kernel)
theorem w_104 : Cond.fieldLink R_Main 105 R_Tape "size" "I" ∈ TB := tb_in 104 (by decide +kernel) (by decide +kernel)
theorem w_635 : Cond.code y_Main_count b_Main_count 2 (some .int) ∈ TB := tb_in 635 (by decide +kernel) (by decide +kernel)
theorem d_Main_count_0 : decode b_Main_count 0 = .ok (.iload_n 1, 1) := by decide +kernel
theorem d_Main_count_1 : decode b_Main_count 1 = .ok (.tableswitch 54 0 3 #[31, 36, 41, 46], 31) := by decide +kernel
theorem d_Main_count_32 : decode b_Main_count 32 = .ok (.aload_n 0, 1) := by decide +kernel
theorem d_Main_count_33 : decode b_Main_count 33 = .ok (.getfield 99, 3) := by decide +kernel
theorem d_Main_count_36 : decode b_Main_count 36 = .ok (.ireturn, 1) := by decide +kernel
theorem d_Main_count_37 : decode b_Main_count 37 = .ok (.aload_n 0, 1) := by decide +kernel
theorem d_Main_count_38 : decode b_Main_count 38 = .ok (.getfield 77, 3) := by decide +kernel
theorem d_Main_count_41 : decode b_Main_count 41 = .ok (.ireturn, 1) := by decide +kernel
theorem d_Main_count_42 : decode b_Main_count 42 = .ok (.aload_n 0, 1) := by decide +kernel
theorem d_Main_count_43 : decode b_Main_count 43 = .ok (.getfield 102, 3) := by decide +kernel
theorem d_Main_count_46 : decode b_Main_count 46 = .ok (.ireturn, 1) := by decide +kernel
theorem d_Main_count_47 : decode b_Main_count 47 = .ok (.aload_n 0, 1) := by decide +kernel
theorem d_Main_count_48 : decode b_Main_count 48 = .ok (.getfield 24, 3) := by decide +kernel
theorem d_Main_count_51 : decode b_Main_count 51 = .ok (.getfield 105, 3) := by decide +kernel
theorem d_Main_count_54 : decode b_Main_count 54 = .ok (.ireturn, 1) := by decide +kernel
theorem d_Main_count_55 : decode b_Main_count 55 = .ok (.bipush (-2), 2) := by decide +kernel
theorem d_Main_count_57 : decode b_Main_count 57 = .ok (.ireturn, 1) := by decide +kernel
section S_Main_count
variable {p : Program} {l : Launch} {e : Env} {s : State} {m : MethodId} {args : Array Value} {below : List Frame} {meth : Method} {c : Code} {D : va_G} {cA : Nat → ClassId} {ad : Nat → Nat} {nC : Nat} {A : Nat → Prop} {r : Int32} {τ : St}
noncomputable def F_Main_count_0 (s0 : St) (v1 : Int32) : Int32 := (if v1 = 0 then (s0.1 20 1) else (if v1 = 1 then (s0.1 20 3) else (if v1 = 2 then (s0.1 20 4) else (if v1 = 3 then (s0.1 0 1) else (-2 : Int32)))))
set_option maxHeartbeats 4000000 in
set_option maxRecDepth 100000 in
theorem q_Main_count_0 (hn : 21 ≤ nC) (s0 : St) (K : Fx p s m args meth c b_Main_count 2 R_Main (some .int))  : ∀ (H : Heap) (locs : List Loc) (ls : Array Slot) (v1 : Int32), Wh D cA ad (shC.take nC) A s s0 H locs → lv_has ls 2 [(0, .ref (ad 20)), (1, .int v1)] → F_Main_count_0 s0 v1 = r → W p l e rm_Main_count s m args below meth c H locs 0 0 (MQ below (QcI D cA ad (shC.take nC) A r s0) args s 0 0 A) (F0 m 0 ls []) := by
  have hx := K.1.1; have hb := K.1.2.1
  intro H locs ls v1 hw hl hF
  unfold F_Main_count_0 at hF
  refine lv_iload_n hx hb d_Main_count_0 rfl (lv_at hl 1 rfl) ?_
  by_cases c_1 : v1 = 0
  · replace hF := ifT hF c_1
    refine lv_tableIn (tgt := 32) hx hb d_Main_count_1 (by rw [c_1]; decide) (by rw [c_1]; decide) (by rw [c_1]; rfl) (by decide) ?_
    refine lv_aload_n hx hb d_Main_count_32 rfl (lv_at hl 0 rfl) ?_
    refine r_get (v := .int (s0.1 20 1)) K hw i_Main (sh_Main (Nat.le_trans (Nat.le_of_ble_eq_true rfl) hn)) rfl 1 (by decide) w_599 rfl rfl rfl d_Main_count_33 ?_
    subst hF
    exact r_iret K hw d_Main_count_36
  replace hF := ifF hF c_1
  by_cases c_2 : v1 = 1
  · replace hF := ifT hF c_2
    refine lv_tableIn (tgt := 37) hx hb d_Main_count_1 (by rw [c_2]; decide) (by rw [c_2]; decide) (by rw [c_2]; rfl) (by decide) ?_
    refine lv_aload_n hx hb d_Main_count_37 rfl (lv_at hl 0 rfl) ?_
    refine r_get (v := .int (s0.1 20 3)) K hw i_Main (sh_Main (Nat.le_trans (Nat.le_of_ble_eq_true rfl) hn)) rfl 3 (by decide) w_601 rfl rfl rfl d_Main_count_38 ?_
    subst hF
    exact r_iret K hw d_Main_count_41
  replace hF := ifF hF c_2
  by_cases c_3 : v1 = 2
  · replace hF := ifT hF c_3
    refine lv_tableIn (tgt := 42) hx hb d_Main_count_1 (by rw [c_3]; decide) (by rw [c_3]; decide) (by rw [c_3]; rfl) (by decide) ?_
    refine lv_aload_n hx hb d_Main_count_42 rfl (lv_at hl 0 rfl) ?_
    refine r_get (v := .int (s0.1 20 4)) K hw i_Main (sh_Main (Nat.le_trans (Nat.le_of_ble_eq_true rfl) hn)) rfl 4 (by decide) w_602 rfl rfl rfl d_Main_count_43 ?_
    subst hF
    exact r_iret K hw d_Main_count_46
  replace hF := ifF hF c_3
  by_cases c_4 : v1 = 3
  · replace hF := ifT hF c_4
    refine lv_tableIn (tgt := 47) hx hb d_Main_count_1 (by rw [c_4]; decide) (by rw [c_4]; decide) (by rw [c_4]; rfl) (by decide) ?_
    refine lv_aload_n hx hb d_Main_count_47 rfl (lv_at hl 0 rfl) ?_
    refine r_get (v := .ref (ad 0)) K hw i_Main (sh_Main (Nat.le_trans (Nat.le_of_ble_eq_true rfl) hn)) rfl 5 (by decide) w_603 rfl rfl rfl d_Main_count_48 ?_
    refine r_get (v := .int (s0.1 0 1)) K hw i_Tape (sh_Tape (Nat.le_trans (Nat.le_of_ble_eq_true rfl) hn)) rfl 1 (by decide) w_104 rfl rfl rfl d_Main_count_51 ?_
    subst hF
    exact r_iret K hw d_Main_count_54
  replace hF := ifF hF c_4
  have nc_1 : ¬ (v1).toInt = 0 := lv_neT c_1 rfl
  have nc_2 : ¬ (v1).toInt = 1 := lv_neT c_2 rfl
  have nc_3 : ¬ (v1).toInt = 2 := lv_neT c_3 rfl
  have nc_4 : ¬ (v1).toInt = 3 := lv_neT c_4 rfl
  refine lv_tableOut (tgt := 55) hx hb d_Main_count_1 (by omega) (by decide) ?_
  refine lv_bipush (v := -2) hx hb d_Main_count_55 (by decide) ?_
  subst hF
  exact r_iret K hw d_Main_count_57
end S_Main_count
noncomputable abbrev F_Main_count := F_Main_count_0
theorem c_Main_count {l : Launch} {D : va_G} {cA : Nat → ClassId} {ad : Nat → Nat} {s0 : St} {nC : Nat} (hn : 21 ≤ nC) {r : Int32} {v1 : Int32}  (hF : F_Main_count s0 v1 = r) : MI l D cA ad (shC.take nC) y_Main_count (wT y_Main_count b_Main_count 2 (some .int)) rm_Main_count [.ref (ad 20), .int v1] s0 r s0 := fun sz => m_start (Qc := fun A => QcI D cA ad (shC.take nC) A r s0) (by decide +kernel) w_635 (Nat.le_of_ble_eq_true rfl) (fun p e s m below meth c ls K hl hw => q_Main_count_0 hn s0 K _ _ _ _  hw hl hF)

/-! Main.isWithin(III)Z -/
abbrev b_Main_isWithin : ByteArray := prog_1_method_35_code
def y_Main_isWithin : MethodName := ⟨R_Main, "isWithin", "(III)Z"⟩
theorem a_Main_isWithin : y_Main_isWithin.cls = R_Main ∧ y_Main_isWithin.cls ≠ "java/lang/invoke/MethodHandle" ∧ y_Main_isWithin.cls ≠ "java/lang/invoke/VarHandle" ∧ (parseMethodDescriptor y_Main_isWithin.desc).map (fun d => d.parameters.length) = some 3 := by decide +kernel
abbrev rm_Main_isWithin : Room := { frames := 0, cells := 0, slots := 0, locals := 0 }
theorem w_348 : Cond.code y_Main_isWithin b_Main_isWithin 3 (some .boolean) ∈ TB := tb_in 348 (by decide +kernel) (by decide +kernel)
theorem d_Main_isWithin_0 : decode b_Main_isWithin 0 = .ok (.iload_n 0, 1) := by decide +kernel
theorem d_Main_isWithin_1 : decode b_Main_isWithin 1 = .ok (.iload_n 1, 1) := by decide +kernel
theorem d_Main_isWithin_2 : decode b_Main_isWithin 2 = .ok (.if_icmp .lt 12, 3) := by decide +kernel
theorem d_Main_isWithin_5 : decode b_Main_isWithin 5 = .ok (.iload_n 0, 1) := by decide +kernel
theorem d_Main_isWithin_6 : decode b_Main_isWithin 6 = .ok (.iload_n 2, 1) := by decide +kernel
theorem d_Main_isWithin_7 : decode b_Main_isWithin 7 = .ok (.if_icmp .gt 7, 3) := by decide +kernel
theorem d_Main_isWithin_10 : decode b_Main_isWithin 10 = .ok (.iconst 1, 1) := by decide +kernel
theorem d_Main_isWithin_11 : decode b_Main_isWithin 11 = .ok (.goto 4, 3) := by decide +kernel
theorem d_Main_isWithin_14 : decode b_Main_isWithin 14 = .ok (.iconst 0, 1) := by decide +kernel
theorem d_Main_isWithin_15 : decode b_Main_isWithin 15 = .ok (.ireturn, 1) := by decide +kernel
section S_Main_isWithin
variable {p : Program} {l : Launch} {e : Env} {s : State} {m : MethodId} {args : Array Value} {below : List Frame} {meth : Method} {c : Code} {D : va_G} {cA : Nat → ClassId} {ad : Nat → Nat} {nC : Nat} {A : Nat → Prop} {r : Int32} {τ : St}
noncomputable def F_Main_isWithin_0 (v0 : Int32) (v1 : Int32) (v2 : Int32) : Int32 := (if v0 < v1 then (0 : Int32) else (if v2 < v0 then (0 : Int32) else (1 : Int32)))
set_option maxHeartbeats 4000000 in
set_option maxRecDepth 100000 in
theorem q_Main_isWithin_0 (hn : 0 ≤ nC) (s0 : St) (K : Fx p s m args meth c b_Main_isWithin 3 R_Main (some .boolean))  : ∀ (H : Heap) (locs : List Loc) (ls : Array Slot) (v0 : Int32) (v1 : Int32) (v2 : Int32), Wh D cA ad (shC.take nC) A s s0 H locs → lv_has ls 3 [(0, .int v0), (1, .int v1), (2, .int v2)] → F_Main_isWithin_0 v0 v1 v2 = r → W p l e rm_Main_isWithin s m args below meth c H locs 0 0 (MQ below (QcI D cA ad (shC.take nC) A r s0) args s 0 0 A) (F0 m 0 ls []) := by
  have hx := K.1.1; have hb := K.1.2.1
  intro H locs ls v0 v1 v2 hw hl hF
  unfold F_Main_isWithin_0 at hF
  refine lv_iload_n hx hb d_Main_isWithin_0 rfl (lv_at hl 0 rfl) ?_
  refine lv_iload_n hx hb d_Main_isWithin_1 rfl (lv_at hl 1 rfl) ?_
  refine lv_icmp_lt (tgt := 14) hx hb d_Main_isWithin_2 (by decide) (fun c_1 => ?_) (fun c_1 => ?_)
  · replace hF := ifT hF c_1
    refine lv_iconst (v := 0) hx hb d_Main_isWithin_14 (by decide) ?_
    subst hF
    exact r_zret K hw (by decide) d_Main_isWithin_15
  · replace hF := ifF hF c_1
    refine lv_iload_n hx hb d_Main_isWithin_5 rfl (lv_at hl 0 rfl) ?_
    refine lv_iload_n hx hb d_Main_isWithin_6 rfl (lv_at hl 2 rfl) ?_
    refine lv_icmp_gt (tgt := 14) hx hb d_Main_isWithin_7 (by decide) (fun c_2 => ?_) (fun c_2 => ?_)
    · replace hF := ifT hF c_2
      refine lv_iconst (v := 0) hx hb d_Main_isWithin_14 (by decide) ?_
      subst hF
      exact r_zret K hw (by decide) d_Main_isWithin_15
    · replace hF := ifF hF c_2
      refine lv_iconst (v := 1) hx hb d_Main_isWithin_10 (by decide) ?_
      refine lv_goto (tgt := 15) hx hb d_Main_isWithin_11 (by decide) ?_
      subst hF
      exact r_zret K hw (by decide) d_Main_isWithin_15
end S_Main_isWithin
noncomputable abbrev F_Main_isWithin := F_Main_isWithin_0
theorem c_Main_isWithin {l : Launch} {D : va_G} {cA : Nat → ClassId} {ad : Nat → Nat} {s0 : St} {nC : Nat} (hn : 0 ≤ nC) {r : Int32} {v0 : Int32} {v1 : Int32} {v2 : Int32}  (hF : F_Main_isWithin v0 v1 v2 = r) : MI l D cA ad (shC.take nC) y_Main_isWithin (wT y_Main_isWithin b_Main_isWithin 3 (some .boolean)) rm_Main_isWithin [.int v0, .int v1, .int v2] s0 r s0 := fun sz => m_start (Qc := fun A => QcI D cA ad (shC.take nC) A r s0) (by decide +kernel) w_348 (Nat.le_of_ble_eq_true rfl) (fun p e s m below meth c ls K hl hw => q_Main_isWithin_0 hn s0 K _ _ _ _ _ _  hw hl hF)

/-! Main.isByte(I)Z -/
abbrev b_Main_isByte : ByteArray := prog_1_method_37_code
def y_Main_isByte : MethodName := ⟨R_Main, "isByte", "(I)Z"⟩
theorem a_Main_isByte : y_Main_isByte.cls = R_Main ∧ y_Main_isByte.cls ≠ "java/lang/invoke/MethodHandle" ∧ y_Main_isByte.cls ≠ "java/lang/invoke/VarHandle" ∧ (parseMethodDescriptor y_Main_isByte.desc).map (fun d => d.parameters.length) = some 1 := by decide +kernel
abbrev rm_Main_isByte : Room := { frames := 1, cells := 0, slots := 0, locals := 22 }
theorem w_640 : Cond.methodLink R_Main 108 y_Main_isWithin ∈ TB := tb_in 640 (by decide +kernel) (by decide +kernel)
theorem w_347 : Cond.static y_Main_isWithin ∈ TB := tb_in 347 (by decide +kernel) (by decide +kernel)
theorem w_63 : Cond.initialized R_Main ∈ TB := tb_in 63 (by decide +kernel) (by decide +kernel)
theorem w_643 : Cond.code y_Main_isByte b_Main_isByte 1 (some .boolean) ∈ TB := tb_in 643 (by decide +kernel) (by decide +kernel)
theorem d_Main_isByte_0 : decode b_Main_isByte 0 = .ok (.iload_n 0, 1) := by decide +kernel
theorem d_Main_isByte_1 : decode b_Main_isByte 1 = .ok (.iconst 0, 1) := by decide +kernel
theorem d_Main_isByte_2 : decode b_Main_isByte 2 = .ok (.sipush 255, 3) := by decide +kernel
theorem d_Main_isByte_5 : decode b_Main_isByte 5 = .ok (.invokestatic 108, 3) := by decide +kernel
theorem d_Main_isByte_8 : decode b_Main_isByte 8 = .ok (.ireturn, 1) := by decide +kernel
section S_Main_isByte
variable {p : Program} {l : Launch} {e : Env} {s : State} {m : MethodId} {args : Array Value} {below : List Frame} {meth : Method} {c : Code} {D : va_G} {cA : Nat → ClassId} {ad : Nat → Nat} {nC : Nat} {A : Nat → Prop} {r : Int32} {τ : St}
noncomputable def F_Main_isByte_0 (v0 : Int32) : Option Int32 := (if ((F_Main_isWithin v0 (0 : Int32) (255 : Int32)) = 0 ∨ (F_Main_isWithin v0 (0 : Int32) (255 : Int32)) = 1) then (some (F_Main_isWithin v0 (0 : Int32) (255 : Int32))) else none)
set_option maxHeartbeats 4000000 in
set_option maxRecDepth 100000 in
theorem q_Main_isByte_0 (hn : 0 ≤ nC) (s0 : St) (K : Fx p s m args meth c b_Main_isByte 1 R_Main (some .boolean))  : ∀ (H : Heap) (locs : List Loc) (ls : Array Slot) (v0 : Int32), Wh D cA ad (shC.take nC) A s s0 H locs → lv_has ls 1 [(0, .int v0)] → F_Main_isByte_0 v0 = (some r) → W p l e rm_Main_isByte s m args below meth c H locs 0 0 (MQ below (QcI D cA ad (shC.take nC) A r s0) args s 0 0 A) (F0 m 0 ls []) := by
  have hx := K.1.1; have hb := K.1.2.1
  intro H locs ls v0 hw hl hF
  unfold F_Main_isByte_0 at hF
  refine lv_iload_n hx hb d_Main_isByte_0 rfl (lv_at hl 0 rfl) ?_
  refine lv_iconst (v := 0) hx hb d_Main_isByte_1 (by decide) ?_
  refine lv_sipush (v := 255) hx hb d_Main_isByte_2 (by decide) ?_
  refine r_callSI (As := [.int v0, .int (0 : Int32), .int (255 : Int32)]) (rest := []) K hw hl.1 (c_Main_isWithin (l := l) (D := D) (cA := cA) (ad := ad) (s0 := s0) (Nat.le_trans (Nat.le_of_ble_eq_true rfl) hn)  rfl) (tb_gS w_640 w_347 w_63 w_348) a_Main_isWithin ⟨rfl, rfl, Nat.le_of_ble_eq_true rfl, Nat.le_of_ble_eq_true rfl⟩ rfl rfl (Nat.le_of_ble_eq_true rfl) d_Main_isByte_5 (fun H locs hw => ?_)
  obtain ⟨g_1, hF⟩ := ifG hF
  replace hF := sE1 hF
  subst hF
  exact r_zret K hw (zN g_1) d_Main_isByte_8
end S_Main_isByte
noncomputable abbrev F_Main_isByte := F_Main_isByte_0
theorem c_Main_isByte {l : Launch} {D : va_G} {cA : Nat → ClassId} {ad : Nat → Nat} {s0 : St} {nC : Nat} (hn : 0 ≤ nC) {r : Int32} {v0 : Int32}  (hF : F_Main_isByte v0 = (some r)) : MI l D cA ad (shC.take nC) y_Main_isByte (wT y_Main_isByte b_Main_isByte 1 (some .boolean)) rm_Main_isByte [.int v0] s0 r s0 := fun sz => m_start (Qc := fun A => QcI D cA ad (shC.take nC) A r s0) (by decide +kernel) w_643 (Nat.le_of_ble_eq_true rfl) (fun p e s m below meth c ls K hl hw => q_Main_isByte_0 hn s0 K _ _ _ _  hw hl hF)

/-! Tape.add(I)V -/
abbrev b_Tape_add : ByteArray := prog_9_method_2_code
def y_Tape_add : MethodName := ⟨R_Tape, "add", "(I)V"⟩
theorem a_Tape_add : y_Tape_add.cls = R_Tape ∧ y_Tape_add.cls ≠ "java/lang/invoke/MethodHandle" ∧ y_Tape_add.cls ≠ "java/lang/invoke/VarHandle" ∧ (parseMethodDescriptor y_Tape_add.desc).map (fun d => d.parameters.length) = some 1 := by decide +kernel
abbrev rm_Tape_add : Room := { frames := 0, cells := 0, slots := 0, locals := 0 }
theorem w_102 : Cond.fieldLink R_Tape 15 R_Tape "size" "I" ∈ TB := tb_in 102 (by decide +kernel) (by decide +kernel)
theorem w_101 : Cond.fieldLink R_Tape 9 R_Tape "bytes" "[I" ∈ TB := tb_in 101 (by decide +kernel) (by decide +kernel)
theorem w_275 : Cond.code y_Tape_add b_Tape_add 2 none ∈ TB := tb_in 275 (by decide +kernel) (by decide +kernel)
theorem d_Tape_add_0 : decode b_Tape_add 0 = .ok (.aload_n 0, 1) := by decide +kernel
theorem d_Tape_add_1 : decode b_Tape_add 1 = .ok (.getfield 15, 3) := by decide +kernel
theorem d_Tape_add_4 : decode b_Tape_add 4 = .ok (.aload_n 0, 1) := by decide +kernel
theorem d_Tape_add_5 : decode b_Tape_add 5 = .ok (.getfield 9, 3) := by decide +kernel
theorem d_Tape_add_8 : decode b_Tape_add 8 = .ok (.arraylength, 1) := by decide +kernel
theorem d_Tape_add_9 : decode b_Tape_add 9 = .ok (.if_icmp .lt 4, 3) := by decide +kernel
theorem d_Tape_add_12 : decode b_Tape_add 12 = .ok (.return_, 1) := by decide +kernel
theorem d_Tape_add_13 : decode b_Tape_add 13 = .ok (.aload_n 0, 1) := by decide +kernel
theorem d_Tape_add_14 : decode b_Tape_add 14 = .ok (.getfield 9, 3) := by decide +kernel
theorem d_Tape_add_17 : decode b_Tape_add 17 = .ok (.aload_n 0, 1) := by decide +kernel
theorem d_Tape_add_18 : decode b_Tape_add 18 = .ok (.getfield 15, 3) := by decide +kernel
theorem d_Tape_add_21 : decode b_Tape_add 21 = .ok (.iload_n 1, 1) := by decide +kernel
theorem d_Tape_add_22 : decode b_Tape_add 22 = .ok (.iastore, 1) := by decide +kernel
theorem d_Tape_add_23 : decode b_Tape_add 23 = .ok (.aload_n 0, 1) := by decide +kernel
theorem d_Tape_add_24 : decode b_Tape_add 24 = .ok (.dup, 1) := by decide +kernel
theorem d_Tape_add_25 : decode b_Tape_add 25 = .ok (.getfield 15, 3) := by decide +kernel
theorem d_Tape_add_28 : decode b_Tape_add 28 = .ok (.iconst 1, 1) := by decide +kernel
theorem d_Tape_add_29 : decode b_Tape_add 29 = .ok (.iadd, 1) := by decide +kernel
theorem d_Tape_add_30 : decode b_Tape_add 30 = .ok (.putfield 15, 3) := by decide +kernel
theorem d_Tape_add_33 : decode b_Tape_add 33 = .ok (.return_, 1) := by decide +kernel
section S_Tape_add
variable {p : Program} {l : Launch} {e : Env} {s : State} {m : MethodId} {args : Array Value} {below : List Frame} {meth : Method} {c : Code} {D : va_G} {cA : Nat → ClassId} {ad : Nat → Nat} {nC : Nat} {A : Nat → Prop} {τ : St}
noncomputable def F_Tape_add_0 (s0 : St) (v1 : Int32) : Option St := (if (s0.1 0 1) < (160 : Int32) then (if inB (s0.1 0 1) 160 = true then (lt (up1 s0 1 (s0.1 0 1).toNatClampNeg v1) (fun s_3 => (lt (up1 s_3 0 1 ((s_3.1 0 1) + (1 : Int32))) (fun s_4 => (some s_4))))) else none) else (some s0))
set_option maxHeartbeats 4000000 in
set_option maxRecDepth 100000 in
theorem q_Tape_add_0 (hn : 2 ≤ nC) (K : Fx p s m args meth c b_Tape_add 2 R_Tape none)  : ∀ (H : Heap) (locs : List Loc) (ls : Array Slot) (s0 : St) (v1 : Int32), Wh D cA ad (shC.take nC) A s s0 H locs → lv_has ls 2 [(0, .ref (ad 0)), (1, .int v1)] → F_Tape_add_0 s0 v1 = (some τ) → W p l e rm_Tape_add s m args below meth c H locs 0 0 (MQ below (QcV D cA ad (shC.take nC) A τ) args s 0 0 A) (F0 m 0 ls []) := by
  have hx := K.1.1; have hb := K.1.2.1
  intro H locs ls s0 v1 hw hl hF
  unfold F_Tape_add_0 at hF
  refine lv_aload_n hx hb d_Tape_add_0 rfl (lv_at hl 0 rfl) ?_
  refine r_get (v := .int (s0.1 0 1)) K hw i_Tape (sh_Tape (Nat.le_trans (Nat.le_of_ble_eq_true rfl) hn)) rfl 1 (by decide) w_102 rfl rfl rfl d_Tape_add_1 ?_
  refine lv_aload_n hx hb d_Tape_add_4 rfl (lv_at hl 0 rfl) ?_
  refine r_get (v := .ref (ad 1)) K hw i_Tape (sh_Tape (Nat.le_trans (Nat.le_of_ble_eq_true rfl) hn)) rfl 0 (by decide) w_101 rfl rfl rfl d_Tape_add_5 ?_
  refine r_alen (v := 160) K hw (sh_a1 (Nat.le_trans (Nat.le_of_ble_eq_true rfl) hn)) (by decide) d_Tape_add_8 ?_
  refine lv_icmp_lt (tgt := 13) hx hb d_Tape_add_9 (by decide) (fun c_1 => ?_) (fun c_1 => ?_)
  · replace hF := ifT hF c_1
    refine lv_aload_n hx hb d_Tape_add_13 rfl (lv_at hl 0 rfl) ?_
    refine r_get (v := .ref (ad 1)) K hw i_Tape (sh_Tape (Nat.le_trans (Nat.le_of_ble_eq_true rfl) hn)) rfl 0 (by decide) w_101 rfl rfl rfl d_Tape_add_14 ?_
    refine lv_aload_n hx hb d_Tape_add_17 rfl (lv_at hl 0 rfl) ?_
    refine r_get (v := .int (s0.1 0 1)) K hw i_Tape (sh_Tape (Nat.le_trans (Nat.le_of_ble_eq_true rfl) hn)) rfl 1 (by decide) w_102 rfl rfl rfl d_Tape_add_18 ?_
    refine lv_iload_n hx hb d_Tape_add_21 rfl (lv_at hl 1 rfl) ?_
    obtain ⟨g_2, hF⟩ := ifG hF
    refine r_iast (k := (s0.1 0 1).toNatClampNeg) K hw (sh_a1 (Nat.le_trans (Nat.le_of_ble_eq_true rfl) hn)) rfl (inB_vp g_2) d_Tape_add_22 (fun s_3 f_s_3 H locs hw => ?_)
    replace hF := ltN hF f_s_3
    refine lv_aload_n hx hb d_Tape_add_23 rfl (lv_at hl 0 rfl) ?_
    refine lv_dup hx hb d_Tape_add_24 rfl ?_
    refine r_get (v := .int (s_3.1 0 1)) K hw i_Tape (sh_Tape (Nat.le_trans (Nat.le_of_ble_eq_true rfl) hn)) rfl 1 (by decide) w_102 rfl rfl rfl d_Tape_add_25 ?_
    refine lv_iconst (v := 1) hx hb d_Tape_add_28 (by decide) ?_
    refine lv_iadd hx hb d_Tape_add_29 ?_
    refine r_putI K hw i_Tape t_Tape t_Tape_ok n_Tape (sh_Tape (Nat.le_trans (Nat.le_of_ble_eq_true rfl) hn)) rfl 1 (by decide) w_102 rfl rfl rfl rfl rfl d_Tape_add_30 (fun s_4 f_s_4 H locs hw => ?_)
    replace hF := ltN hF f_s_4
    replace hF := sE1 hF
    subst hF
    exact r_vret K hw d_Tape_add_33
  · replace hF := ifF hF c_1
    replace hF := sE1 hF
    subst hF
    exact r_vret K hw d_Tape_add_12
end S_Tape_add
noncomputable abbrev F_Tape_add := F_Tape_add_0
theorem c_Tape_add {l : Launch} {D : va_G} {cA : Nat → ClassId} {ad : Nat → Nat} {s0 τ : St} {nC : Nat} (hn : 2 ≤ nC) {v1 : Int32}  (hF : F_Tape_add s0 v1 = (some τ)) : MV l D cA ad (shC.take nC) y_Tape_add (wT y_Tape_add b_Tape_add 2 none) rm_Tape_add [.ref (ad 0), .int v1] s0 τ := fun sz => m_start (Qc := fun A => QcV D cA ad (shC.take nC) A τ) (by decide +kernel) w_275 (Nat.le_of_ble_eq_true rfl) (fun p e s m below meth c ls K hl hw => q_Tape_add_0 hn K _ _ _ _ _  hw hl hF)

/-! Main.feed(IIIIII)I -/
abbrev b_Main_feed : ByteArray := prog_1_method_3_code
def y_Main_feed : MethodName := ⟨R_Main, "feed", "(IIIIII)I"⟩
theorem a_Main_feed : y_Main_feed.cls = R_Main ∧ y_Main_feed.cls ≠ "java/lang/invoke/MethodHandle" ∧ y_Main_feed.cls ≠ "java/lang/invoke/VarHandle" ∧ (parseMethodDescriptor y_Main_feed.desc).map (fun d => d.parameters.length) = some 6 := by decide +kernel
abbrev rm_Main_feed : Room := { frames := 2, cells := 0, slots := 0, locals := 42 }
theorem w_641 : Cond.methodLink R_Main 112 y_Main_isByte ∈ TB := tb_in 641 (by decide +kernel) (by decide +kernel)
theorem w_642 : Cond.static y_Main_isByte ∈ TB := tb_in 642 (by decide +kernel) (by decide +kernel)
theorem w_272 : Cond.methodLink R_Main 58 y_Tape_add ∈ TB := tb_in 272 (by decide +kernel) (by decide +kernel)
theorem w_273 : Cond.instanceMethod y_Tape_add ∈ TB := tb_in 273 (by decide +kernel) (by decide +kernel)
theorem w_274 : Cond.selects R_Tape y_Tape_add y_Tape_add ∈ TB := tb_in 274 (by decide +kernel) (by decide +kernel)
theorem w_64 : Cond.initialized R_Tape ∈ TB := tb_in 64 (by decide +kernel) (by decide +kernel)
theorem w_639 : Cond.code y_Main_feed b_Main_feed 7 (some .int) ∈ TB := tb_in 639 (by decide +kernel) (by decide +kernel)
theorem d_Main_feed_0 : decode b_Main_feed 0 = .ok (.iload_n 1, 1) := by decide +kernel
theorem d_Main_feed_1 : decode b_Main_feed 1 = .ok (.iconst 1, 1) := by decide +kernel
theorem d_Main_feed_2 : decode b_Main_feed 2 = .ok (.iconst 5, 1) := by decide +kernel
theorem d_Main_feed_3 : decode b_Main_feed 3 = .ok (.invokestatic 108, 3) := by decide +kernel
theorem d_Main_feed_6 : decode b_Main_feed 6 = .ok (.ifCond .ne 6, 3) := by decide +kernel
theorem d_Main_feed_9 : decode b_Main_feed 9 = .ok (.bipush (-2), 2) := by decide +kernel
theorem d_Main_feed_11 : decode b_Main_feed 11 = .ok (.ireturn, 1) := by decide +kernel
theorem d_Main_feed_12 : decode b_Main_feed 12 = .ok (.iload_n 2, 1) := by decide +kernel
theorem d_Main_feed_13 : decode b_Main_feed 13 = .ok (.invokestatic 112, 3) := by decide +kernel
theorem d_Main_feed_16 : decode b_Main_feed 16 = .ok (.ifCond .eq 34, 3) := by decide +kernel
theorem d_Main_feed_19 : decode b_Main_feed 19 = .ok (.iload_n 3, 1) := by decide +kernel
theorem d_Main_feed_20 : decode b_Main_feed 20 = .ok (.invokestatic 112, 3) := by decide +kernel
theorem d_Main_feed_23 : decode b_Main_feed 23 = .ok (.ifCond .eq 27, 3) := by decide +kernel
theorem d_Main_feed_26 : decode b_Main_feed 26 = .ok (.iload 4, 2) := by decide +kernel
theorem d_Main_feed_28 : decode b_Main_feed 28 = .ok (.invokestatic 112, 3) := by decide +kernel
theorem d_Main_feed_31 : decode b_Main_feed 31 = .ok (.ifCond .eq 19, 3) := by decide +kernel
theorem d_Main_feed_34 : decode b_Main_feed 34 = .ok (.iload 5, 2) := by decide +kernel
theorem d_Main_feed_36 : decode b_Main_feed 36 = .ok (.invokestatic 112, 3) := by decide +kernel
theorem d_Main_feed_39 : decode b_Main_feed 39 = .ok (.ifCond .eq 11, 3) := by decide +kernel
theorem d_Main_feed_42 : decode b_Main_feed 42 = .ok (.iload 6, 2) := by decide +kernel
theorem d_Main_feed_44 : decode b_Main_feed 44 = .ok (.invokestatic 112, 3) := by decide +kernel
theorem d_Main_feed_47 : decode b_Main_feed 47 = .ok (.ifCond .ne 6, 3) := by decide +kernel
theorem d_Main_feed_50 : decode b_Main_feed 50 = .ok (.bipush (-2), 2) := by decide +kernel
theorem d_Main_feed_52 : decode b_Main_feed 52 = .ok (.ireturn, 1) := by decide +kernel
theorem d_Main_feed_53 : decode b_Main_feed 53 = .ok (.iload_n 1, 1) := by decide +kernel
theorem d_Main_feed_54 : decode b_Main_feed 54 = .ok (.sipush 160, 3) := by decide +kernel
theorem d_Main_feed_57 : decode b_Main_feed 57 = .ok (.aload_n 0, 1) := by decide +kernel
theorem d_Main_feed_58 : decode b_Main_feed 58 = .ok (.getfield 24, 3) := by decide +kernel
theorem d_Main_feed_61 : decode b_Main_feed 61 = .ok (.getfield 105, 3) := by decide +kernel
theorem d_Main_feed_64 : decode b_Main_feed 64 = .ok (.isub, 1) := by decide +kernel
theorem d_Main_feed_65 : decode b_Main_feed 65 = .ok (.if_icmp .le 6, 3) := by decide +kernel
theorem d_Main_feed_68 : decode b_Main_feed 68 = .ok (.bipush (-4), 2) := by decide +kernel
theorem d_Main_feed_70 : decode b_Main_feed 70 = .ok (.ireturn, 1) := by decide +kernel
theorem d_Main_feed_71 : decode b_Main_feed 71 = .ok (.aload_n 0, 1) := by decide +kernel
theorem d_Main_feed_72 : decode b_Main_feed 72 = .ok (.getfield 24, 3) := by decide +kernel
theorem d_Main_feed_75 : decode b_Main_feed 75 = .ok (.iload_n 2, 1) := by decide +kernel
theorem d_Main_feed_76 : decode b_Main_feed 76 = .ok (.invokevirtual 58, 3) := by decide +kernel
theorem d_Main_feed_79 : decode b_Main_feed 79 = .ok (.iload_n 1, 1) := by decide +kernel
theorem d_Main_feed_80 : decode b_Main_feed 80 = .ok (.iconst 1, 1) := by decide +kernel
theorem d_Main_feed_81 : decode b_Main_feed 81 = .ok (.if_icmp .le 11, 3) := by decide +kernel
theorem d_Main_feed_84 : decode b_Main_feed 84 = .ok (.aload_n 0, 1) := by decide +kernel
theorem d_Main_feed_85 : decode b_Main_feed 85 = .ok (.getfield 24, 3) := by decide +kernel
theorem d_Main_feed_88 : decode b_Main_feed 88 = .ok (.iload_n 3, 1) := by decide +kernel
theorem d_Main_feed_89 : decode b_Main_feed 89 = .ok (.invokevirtual 58, 3) := by decide +kernel
theorem d_Main_feed_92 : decode b_Main_feed 92 = .ok (.iload_n 1, 1) := by decide +kernel
theorem d_Main_feed_93 : decode b_Main_feed 93 = .ok (.iconst 2, 1) := by decide +kernel
theorem d_Main_feed_94 : decode b_Main_feed 94 = .ok (.if_icmp .le 12, 3) := by decide +kernel
theorem d_Main_feed_97 : decode b_Main_feed 97 = .ok (.aload_n 0, 1) := by decide +kernel
theorem d_Main_feed_98 : decode b_Main_feed 98 = .ok (.getfield 24, 3) := by decide +kernel
theorem d_Main_feed_101 : decode b_Main_feed 101 = .ok (.iload 4, 2) := by decide +kernel
theorem d_Main_feed_103 : decode b_Main_feed 103 = .ok (.invokevirtual 58, 3) := by decide +kernel
theorem d_Main_feed_106 : decode b_Main_feed 106 = .ok (.iload_n 1, 1) := by decide +kernel
theorem d_Main_feed_107 : decode b_Main_feed 107 = .ok (.iconst 3, 1) := by decide +kernel
theorem d_Main_feed_108 : decode b_Main_feed 108 = .ok (.if_icmp .le 12, 3) := by decide +kernel
theorem d_Main_feed_111 : decode b_Main_feed 111 = .ok (.aload_n 0, 1) := by decide +kernel
theorem d_Main_feed_112 : decode b_Main_feed 112 = .ok (.getfield 24, 3) := by decide +kernel
theorem d_Main_feed_115 : decode b_Main_feed 115 = .ok (.iload 5, 2) := by decide +kernel
theorem d_Main_feed_117 : decode b_Main_feed 117 = .ok (.invokevirtual 58, 3) := by decide +kernel
theorem d_Main_feed_120 : decode b_Main_feed 120 = .ok (.iload_n 1, 1) := by decide +kernel
theorem d_Main_feed_121 : decode b_Main_feed 121 = .ok (.iconst 4, 1) := by decide +kernel
theorem d_Main_feed_122 : decode b_Main_feed 122 = .ok (.if_icmp .le 12, 3) := by decide +kernel
theorem d_Main_feed_125 : decode b_Main_feed 125 = .ok (.aload_n 0, 1) := by decide +kernel
theorem d_Main_feed_126 : decode b_Main_feed 126 = .ok (.getfield 24, 3) := by decide +kernel
theorem d_Main_feed_129 : decode b_Main_feed 129 = .ok (.iload 6, 2) := by decide +kernel
theorem d_Main_feed_131 : decode b_Main_feed 131 = .ok (.invokevirtual 58, 3) := by decide +kernel
theorem d_Main_feed_134 : decode b_Main_feed 134 = .ok (.aload_n 0, 1) := by decide +kernel
theorem d_Main_feed_135 : decode b_Main_feed 135 = .ok (.getfield 24, 3) := by decide +kernel
theorem d_Main_feed_138 : decode b_Main_feed 138 = .ok (.getfield 105, 3) := by decide +kernel
theorem d_Main_feed_141 : decode b_Main_feed 141 = .ok (.ireturn, 1) := by decide +kernel
section S_Main_feed
variable {p : Program} {l : Launch} {e : Env} {s : State} {m : MethodId} {args : Array Value} {below : List Frame} {meth : Method} {c : Code} {D : va_G} {cA : Nat → ClassId} {ad : Nat → Nat} {nC : Nat} {A : Nat → Prop} {r : Int32} {τ : St}
noncomputable def F_Main_feed_134 (s0 : St) : Option (Int32 × St) := (some ((s0.1 0 1), s0))
set_option maxHeartbeats 4000000 in
set_option maxRecDepth 100000 in
theorem q_Main_feed_134 (hn : 21 ≤ nC) (K : Fx p s m args meth c b_Main_feed 7 R_Main (some .int))  : ∀ (H : Heap) (locs : List Loc) (ls : Array Slot) (s0 : St), Wh D cA ad (shC.take nC) A s s0 H locs → lv_has ls 7 [(0, .ref (ad 20))] → F_Main_feed_134 s0 = (some (r, τ)) → W p l e rm_Main_feed s m args below meth c H locs 0 0 (MQ below (QcI D cA ad (shC.take nC) A r τ) args s 0 0 A) (F0 m 134 ls []) := by
  have hx := K.1.1; have hb := K.1.2.1
  intro H locs ls s0 hw hl hF
  unfold F_Main_feed_134 at hF
  refine lv_aload_n hx hb d_Main_feed_134 rfl (lv_at hl 0 rfl) ?_
  refine r_get (v := .ref (ad 0)) K hw i_Main (sh_Main (Nat.le_trans (Nat.le_of_ble_eq_true rfl) hn)) rfl 5 (by decide) w_603 rfl rfl rfl d_Main_feed_135 ?_
  refine r_get (v := .int (s0.1 0 1)) K hw i_Tape (sh_Tape (Nat.le_trans (Nat.le_of_ble_eq_true rfl) hn)) rfl 1 (by decide) w_104 rfl rfl rfl d_Main_feed_138 ?_
  obtain ⟨hF, hG⟩ := sE2 hF
  subst hF
  subst hG
  exact r_iret K hw d_Main_feed_141
noncomputable def F_Main_feed_120 (s0 : St) (v1 : Int32) (v6 : Int32) : Option (Int32 × St) := (if v1 ≤ (4 : Int32) then (F_Main_feed_134 s0) else (ob1 (F_Tape_add s0 v6) (fun s_18 => (F_Main_feed_134 s_18))))
set_option maxHeartbeats 4000000 in
set_option maxRecDepth 100000 in
theorem q_Main_feed_120 (hn : 21 ≤ nC) (K : Fx p s m args meth c b_Main_feed 7 R_Main (some .int))  : ∀ (H : Heap) (locs : List Loc) (ls : Array Slot) (s0 : St) (v1 : Int32) (v6 : Int32), Wh D cA ad (shC.take nC) A s s0 H locs → lv_has ls 7 [(0, .ref (ad 20)), (1, .int v1), (6, .int v6)] → F_Main_feed_120 s0 v1 v6 = (some (r, τ)) → W p l e rm_Main_feed s m args below meth c H locs 0 0 (MQ below (QcI D cA ad (shC.take nC) A r τ) args s 0 0 A) (F0 m 120 ls []) := by
  have hx := K.1.1; have hb := K.1.2.1
  intro H locs ls s0 v1 v6 hw hl hF
  unfold F_Main_feed_120 at hF
  refine lv_iload_n hx hb d_Main_feed_120 rfl (lv_at hl 1 rfl) ?_
  refine lv_iconst (v := 4) hx hb d_Main_feed_121 (by decide) ?_
  refine lv_icmp_le (tgt := 134) hx hb d_Main_feed_122 (by decide) (fun c_17 => ?_) (fun c_17 => ?_)
  · replace hF := ifT hF c_17
    exact q_Main_feed_134 hn K _ _ _ _  hw (lv_sub hl [0] rfl) hF
  · replace hF := ifF hF c_17
    refine lv_aload_n hx hb d_Main_feed_125 rfl (lv_at hl 0 rfl) ?_
    refine r_get (v := .ref (ad 0)) K hw i_Main (sh_Main (Nat.le_trans (Nat.le_of_ble_eq_true rfl) hn)) rfl 5 (by decide) w_603 rfl rfl rfl d_Main_feed_126 ?_
    refine lv_iload hx hb d_Main_feed_129 (lv_at hl 2 rfl) ?_
    obtain ⟨s_18, h_s_18, hF⟩ := ob1E hF
    refine r_callVV (As := [.int v6]) (rest := []) K hw hl.1 (c_Tape_add (l := l) (D := D) (cA := cA) (ad := ad) (s0 := s0) (Nat.le_trans (Nat.le_of_ble_eq_true rfl) hn)  h_s_18) (sh_Tape (Nat.le_trans (Nat.le_of_ble_eq_true rfl) hn)) rfl (tb_gV w_272 w_273 w_274 w_64 w_275) a_Tape_add ⟨rfl, rfl, Nat.le_of_ble_eq_true rfl, Nat.le_of_ble_eq_true rfl⟩ rfl rfl (Nat.le_of_ble_eq_true rfl) d_Main_feed_131 (fun H locs hw => ?_)
    exact q_Main_feed_134 hn K _ _ _ _  hw (lv_sub hl [0] rfl) hF
noncomputable def F_Main_feed_106 (s0 : St) (v1 : Int32) (v5 : Int32) (v6 : Int32) : Option (Int32 × St) := (if v1 ≤ (3 : Int32) then (F_Main_feed_120 s0 v1 v6) else (ob1 (F_Tape_add s0 v5) (fun s_19 => (F_Main_feed_120 s_19 v1 v6))))
set_option maxHeartbeats 4000000 in
set_option maxRecDepth 100000 in
theorem q_Main_feed_106 (hn : 21 ≤ nC) (K : Fx p s m args meth c b_Main_feed 7 R_Main (some .int))  : ∀ (H : Heap) (locs : List Loc) (ls : Array Slot) (s0 : St) (v1 : Int32) (v5 : Int32) (v6 : Int32), Wh D cA ad (shC.take nC) A s s0 H locs → lv_has ls 7 [(0, .ref (ad 20)), (1, .int v1), (5, .int v5), (6, .int v6)] → F_Main_feed_106 s0 v1 v5 v6 = (some (r, τ)) → W p l e rm_Main_feed s m args below meth c H locs 0 0 (MQ below (QcI D cA ad (shC.take nC) A r τ) args s 0 0 A) (F0 m 106 ls []) := by
  have hx := K.1.1; have hb := K.1.2.1
  intro H locs ls s0 v1 v5 v6 hw hl hF
  unfold F_Main_feed_106 at hF
  refine lv_iload_n hx hb d_Main_feed_106 rfl (lv_at hl 1 rfl) ?_
  refine lv_iconst (v := 3) hx hb d_Main_feed_107 (by decide) ?_
  refine lv_icmp_le (tgt := 120) hx hb d_Main_feed_108 (by decide) (fun c_16 => ?_) (fun c_16 => ?_)
  · replace hF := ifT hF c_16
    exact q_Main_feed_120 hn K _ _ _ _ _ _  hw (lv_sub hl [0, 1, 3] rfl) hF
  · replace hF := ifF hF c_16
    refine lv_aload_n hx hb d_Main_feed_111 rfl (lv_at hl 0 rfl) ?_
    refine r_get (v := .ref (ad 0)) K hw i_Main (sh_Main (Nat.le_trans (Nat.le_of_ble_eq_true rfl) hn)) rfl 5 (by decide) w_603 rfl rfl rfl d_Main_feed_112 ?_
    refine lv_iload hx hb d_Main_feed_115 (lv_at hl 2 rfl) ?_
    obtain ⟨s_19, h_s_19, hF⟩ := ob1E hF
    refine r_callVV (As := [.int v5]) (rest := []) K hw hl.1 (c_Tape_add (l := l) (D := D) (cA := cA) (ad := ad) (s0 := s0) (Nat.le_trans (Nat.le_of_ble_eq_true rfl) hn)  h_s_19) (sh_Tape (Nat.le_trans (Nat.le_of_ble_eq_true rfl) hn)) rfl (tb_gV w_272 w_273 w_274 w_64 w_275) a_Tape_add ⟨rfl, rfl, Nat.le_of_ble_eq_true rfl, Nat.le_of_ble_eq_true rfl⟩ rfl rfl (Nat.le_of_ble_eq_true rfl) d_Main_feed_117 (fun H locs hw => ?_)
    exact q_Main_feed_120 hn K _ _ _ _ _ _  hw (lv_sub hl [0, 1, 3] rfl) hF
noncomputable def F_Main_feed_92 (s0 : St) (v1 : Int32) (v4 : Int32) (v5 : Int32) (v6 : Int32) : Option (Int32 × St) := (if v1 ≤ (2 : Int32) then (F_Main_feed_106 s0 v1 v5 v6) else (ob1 (F_Tape_add s0 v4) (fun s_20 => (F_Main_feed_106 s_20 v1 v5 v6))))
set_option maxHeartbeats 4000000 in
set_option maxRecDepth 100000 in
theorem q_Main_feed_92 (hn : 21 ≤ nC) (K : Fx p s m args meth c b_Main_feed 7 R_Main (some .int))  : ∀ (H : Heap) (locs : List Loc) (ls : Array Slot) (s0 : St) (v1 : Int32) (v4 : Int32) (v5 : Int32) (v6 : Int32), Wh D cA ad (shC.take nC) A s s0 H locs → lv_has ls 7 [(0, .ref (ad 20)), (1, .int v1), (4, .int v4), (5, .int v5), (6, .int v6)] → F_Main_feed_92 s0 v1 v4 v5 v6 = (some (r, τ)) → W p l e rm_Main_feed s m args below meth c H locs 0 0 (MQ below (QcI D cA ad (shC.take nC) A r τ) args s 0 0 A) (F0 m 92 ls []) := by
  have hx := K.1.1; have hb := K.1.2.1
  intro H locs ls s0 v1 v4 v5 v6 hw hl hF
  unfold F_Main_feed_92 at hF
  refine lv_iload_n hx hb d_Main_feed_92 rfl (lv_at hl 1 rfl) ?_
  refine lv_iconst (v := 2) hx hb d_Main_feed_93 (by decide) ?_
  refine lv_icmp_le (tgt := 106) hx hb d_Main_feed_94 (by decide) (fun c_15 => ?_) (fun c_15 => ?_)
  · replace hF := ifT hF c_15
    exact q_Main_feed_106 hn K _ _ _ _ _ _ _  hw (lv_sub hl [0, 1, 3, 4] rfl) hF
  · replace hF := ifF hF c_15
    refine lv_aload_n hx hb d_Main_feed_97 rfl (lv_at hl 0 rfl) ?_
    refine r_get (v := .ref (ad 0)) K hw i_Main (sh_Main (Nat.le_trans (Nat.le_of_ble_eq_true rfl) hn)) rfl 5 (by decide) w_603 rfl rfl rfl d_Main_feed_98 ?_
    refine lv_iload hx hb d_Main_feed_101 (lv_at hl 2 rfl) ?_
    obtain ⟨s_20, h_s_20, hF⟩ := ob1E hF
    refine r_callVV (As := [.int v4]) (rest := []) K hw hl.1 (c_Tape_add (l := l) (D := D) (cA := cA) (ad := ad) (s0 := s0) (Nat.le_trans (Nat.le_of_ble_eq_true rfl) hn)  h_s_20) (sh_Tape (Nat.le_trans (Nat.le_of_ble_eq_true rfl) hn)) rfl (tb_gV w_272 w_273 w_274 w_64 w_275) a_Tape_add ⟨rfl, rfl, Nat.le_of_ble_eq_true rfl, Nat.le_of_ble_eq_true rfl⟩ rfl rfl (Nat.le_of_ble_eq_true rfl) d_Main_feed_103 (fun H locs hw => ?_)
    exact q_Main_feed_106 hn K _ _ _ _ _ _ _  hw (lv_sub hl [0, 1, 3, 4] rfl) hF
noncomputable def F_Main_feed_0 (s0 : St) (v1 : Int32) (v2 : Int32) (v3 : Int32) (v4 : Int32) (v5 : Int32) (v6 : Int32) : Option (Int32 × St) := (if ¬ (F_Main_isWithin v1 (1 : Int32) (5 : Int32)) = 0 then (ob1 (F_Main_isByte v2) (fun r_2 => (if r_2 = 0 then (some ((-2 : Int32), s0)) else (ob1 (F_Main_isByte v3) (fun r_4 => (if r_4 = 0 then (some ((-2 : Int32), s0)) else (ob1 (F_Main_isByte v4) (fun r_6 => (if r_6 = 0 then (some ((-2 : Int32), s0)) else (ob1 (F_Main_isByte v5) (fun r_8 => (if r_8 = 0 then (some ((-2 : Int32), s0)) else (ob1 (F_Main_isByte v6) (fun r_10 => (if ¬ r_10 = 0 then (if v1 ≤ ((160 : Int32) - (s0.1 0 1)) then (ob1 (F_Tape_add s0 v2) (fun s_13 => (if v1 ≤ (1 : Int32) then (F_Main_feed_92 s_13 v1 v4 v5 v6) else (ob1 (F_Tape_add s_13 v3) (fun s_21 => (F_Main_feed_92 s_21 v1 v4 v5 v6)))))) else (some ((-4 : Int32), s0))) else (some ((-2 : Int32), s0))))))))))))))))) else (some ((-2 : Int32), s0)))
set_option maxHeartbeats 4000000 in
set_option maxRecDepth 100000 in
theorem q_Main_feed_0 (hn : 21 ≤ nC) (K : Fx p s m args meth c b_Main_feed 7 R_Main (some .int))  : ∀ (H : Heap) (locs : List Loc) (ls : Array Slot) (s0 : St) (v1 : Int32) (v2 : Int32) (v3 : Int32) (v4 : Int32) (v5 : Int32) (v6 : Int32), Wh D cA ad (shC.take nC) A s s0 H locs → lv_has ls 7 [(0, .ref (ad 20)), (1, .int v1), (2, .int v2), (3, .int v3), (4, .int v4), (5, .int v5), (6, .int v6)] → F_Main_feed_0 s0 v1 v2 v3 v4 v5 v6 = (some (r, τ)) → W p l e rm_Main_feed s m args below meth c H locs 0 0 (MQ below (QcI D cA ad (shC.take nC) A r τ) args s 0 0 A) (F0 m 0 ls []) := by
  have hx := K.1.1; have hb := K.1.2.1
  intro H locs ls s0 v1 v2 v3 v4 v5 v6 hw hl hF
  unfold F_Main_feed_0 at hF
  refine lv_iload_n hx hb d_Main_feed_0 rfl (lv_at hl 1 rfl) ?_
  refine lv_iconst (v := 1) hx hb d_Main_feed_1 (by decide) ?_
  refine lv_iconst (v := 5) hx hb d_Main_feed_2 (by decide) ?_
  refine r_callSI (As := [.int v1, .int (1 : Int32), .int (5 : Int32)]) (rest := []) K hw hl.1 (c_Main_isWithin (l := l) (D := D) (cA := cA) (ad := ad) (s0 := s0) (Nat.le_trans (Nat.le_of_ble_eq_true rfl) hn)  rfl) (tb_gS w_640 w_347 w_63 w_348) a_Main_isWithin ⟨rfl, rfl, Nat.le_of_ble_eq_true rfl, Nat.le_of_ble_eq_true rfl⟩ rfl rfl (Nat.le_of_ble_eq_true rfl) d_Main_feed_3 (fun H locs hw => ?_)
  refine lv_if_ne (tgt := 12) hx hb d_Main_feed_6 (by decide) (fun c_1 => ?_) (fun c_1 => ?_)
  · replace hF := ifT hF c_1
    refine lv_iload_n hx hb d_Main_feed_12 rfl (lv_at hl 2 rfl) ?_
    obtain ⟨r_2, h_r_2, hF⟩ := ob1E hF
    refine r_callSI (As := [.int v2]) (rest := []) K hw hl.1 (c_Main_isByte (l := l) (D := D) (cA := cA) (ad := ad) (s0 := s0) (Nat.le_trans (Nat.le_of_ble_eq_true rfl) hn)  h_r_2) (tb_gS w_641 w_642 w_63 w_643) a_Main_isByte ⟨rfl, rfl, Nat.le_of_ble_eq_true rfl, Nat.le_of_ble_eq_true rfl⟩ rfl rfl (Nat.le_of_ble_eq_true rfl) d_Main_feed_13 (fun H locs hw => ?_)
    refine lv_if_eq (tgt := 50) hx hb d_Main_feed_16 (by decide) (fun c_3 => ?_) (fun c_3 => ?_)
    · replace hF := ifT hF c_3
      refine lv_bipush (v := -2) hx hb d_Main_feed_50 (by decide) ?_
      obtain ⟨hF, hG⟩ := sE2 hF
      subst hF
      subst hG
      exact r_iret K hw d_Main_feed_52
    · replace hF := ifF hF c_3
      refine lv_iload_n hx hb d_Main_feed_19 rfl (lv_at hl 3 rfl) ?_
      obtain ⟨r_4, h_r_4, hF⟩ := ob1E hF
      refine r_callSI (As := [.int v3]) (rest := []) K hw hl.1 (c_Main_isByte (l := l) (D := D) (cA := cA) (ad := ad) (s0 := s0) (Nat.le_trans (Nat.le_of_ble_eq_true rfl) hn)  h_r_4) (tb_gS w_641 w_642 w_63 w_643) a_Main_isByte ⟨rfl, rfl, Nat.le_of_ble_eq_true rfl, Nat.le_of_ble_eq_true rfl⟩ rfl rfl (Nat.le_of_ble_eq_true rfl) d_Main_feed_20 (fun H locs hw => ?_)
      refine lv_if_eq (tgt := 50) hx hb d_Main_feed_23 (by decide) (fun c_5 => ?_) (fun c_5 => ?_)
      · replace hF := ifT hF c_5
        refine lv_bipush (v := -2) hx hb d_Main_feed_50 (by decide) ?_
        obtain ⟨hF, hG⟩ := sE2 hF
        subst hF
        subst hG
        exact r_iret K hw d_Main_feed_52
      · replace hF := ifF hF c_5
        refine lv_iload hx hb d_Main_feed_26 (lv_at hl 4 rfl) ?_
        obtain ⟨r_6, h_r_6, hF⟩ := ob1E hF
        refine r_callSI (As := [.int v4]) (rest := []) K hw hl.1 (c_Main_isByte (l := l) (D := D) (cA := cA) (ad := ad) (s0 := s0) (Nat.le_trans (Nat.le_of_ble_eq_true rfl) hn)  h_r_6) (tb_gS w_641 w_642 w_63 w_643) a_Main_isByte ⟨rfl, rfl, Nat.le_of_ble_eq_true rfl, Nat.le_of_ble_eq_true rfl⟩ rfl rfl (Nat.le_of_ble_eq_true rfl) d_Main_feed_28 (fun H locs hw => ?_)
        refine lv_if_eq (tgt := 50) hx hb d_Main_feed_31 (by decide) (fun c_7 => ?_) (fun c_7 => ?_)
        · replace hF := ifT hF c_7
          refine lv_bipush (v := -2) hx hb d_Main_feed_50 (by decide) ?_
          obtain ⟨hF, hG⟩ := sE2 hF
          subst hF
          subst hG
          exact r_iret K hw d_Main_feed_52
        · replace hF := ifF hF c_7
          refine lv_iload hx hb d_Main_feed_34 (lv_at hl 5 rfl) ?_
          obtain ⟨r_8, h_r_8, hF⟩ := ob1E hF
          refine r_callSI (As := [.int v5]) (rest := []) K hw hl.1 (c_Main_isByte (l := l) (D := D) (cA := cA) (ad := ad) (s0 := s0) (Nat.le_trans (Nat.le_of_ble_eq_true rfl) hn)  h_r_8) (tb_gS w_641 w_642 w_63 w_643) a_Main_isByte ⟨rfl, rfl, Nat.le_of_ble_eq_true rfl, Nat.le_of_ble_eq_true rfl⟩ rfl rfl (Nat.le_of_ble_eq_true rfl) d_Main_feed_36 (fun H locs hw => ?_)
          refine lv_if_eq (tgt := 50) hx hb d_Main_feed_39 (by decide) (fun c_9 => ?_) (fun c_9 => ?_)
          · replace hF := ifT hF c_9
            refine lv_bipush (v := -2) hx hb d_Main_feed_50 (by decide) ?_
            obtain ⟨hF, hG⟩ := sE2 hF
            subst hF
            subst hG
            exact r_iret K hw d_Main_feed_52
          · replace hF := ifF hF c_9
            refine lv_iload hx hb d_Main_feed_42 (lv_at hl 6 rfl) ?_
            obtain ⟨r_10, h_r_10, hF⟩ := ob1E hF
            refine r_callSI (As := [.int v6]) (rest := []) K hw hl.1 (c_Main_isByte (l := l) (D := D) (cA := cA) (ad := ad) (s0 := s0) (Nat.le_trans (Nat.le_of_ble_eq_true rfl) hn)  h_r_10) (tb_gS w_641 w_642 w_63 w_643) a_Main_isByte ⟨rfl, rfl, Nat.le_of_ble_eq_true rfl, Nat.le_of_ble_eq_true rfl⟩ rfl rfl (Nat.le_of_ble_eq_true rfl) d_Main_feed_44 (fun H locs hw => ?_)
            refine lv_if_ne (tgt := 53) hx hb d_Main_feed_47 (by decide) (fun c_11 => ?_) (fun c_11 => ?_)
            · replace hF := ifT hF c_11
              refine lv_iload_n hx hb d_Main_feed_53 rfl (lv_at hl 1 rfl) ?_
              refine lv_sipush (v := 160) hx hb d_Main_feed_54 (by decide) ?_
              refine lv_aload_n hx hb d_Main_feed_57 rfl (lv_at hl 0 rfl) ?_
              refine r_get (v := .ref (ad 0)) K hw i_Main (sh_Main (Nat.le_trans (Nat.le_of_ble_eq_true rfl) hn)) rfl 5 (by decide) w_603 rfl rfl rfl d_Main_feed_58 ?_
              refine r_get (v := .int (s0.1 0 1)) K hw i_Tape (sh_Tape (Nat.le_trans (Nat.le_of_ble_eq_true rfl) hn)) rfl 1 (by decide) w_104 rfl rfl rfl d_Main_feed_61 ?_
              refine lv_isub hx hb d_Main_feed_64 ?_
              refine lv_icmp_le (tgt := 71) hx hb d_Main_feed_65 (by decide) (fun c_12 => ?_) (fun c_12 => ?_)
              · replace hF := ifT hF c_12
                refine lv_aload_n hx hb d_Main_feed_71 rfl (lv_at hl 0 rfl) ?_
                refine r_get (v := .ref (ad 0)) K hw i_Main (sh_Main (Nat.le_trans (Nat.le_of_ble_eq_true rfl) hn)) rfl 5 (by decide) w_603 rfl rfl rfl d_Main_feed_72 ?_
                refine lv_iload_n hx hb d_Main_feed_75 rfl (lv_at hl 2 rfl) ?_
                obtain ⟨s_13, h_s_13, hF⟩ := ob1E hF
                refine r_callVV (As := [.int v2]) (rest := []) K hw hl.1 (c_Tape_add (l := l) (D := D) (cA := cA) (ad := ad) (s0 := s0) (Nat.le_trans (Nat.le_of_ble_eq_true rfl) hn)  h_s_13) (sh_Tape (Nat.le_trans (Nat.le_of_ble_eq_true rfl) hn)) rfl (tb_gV w_272 w_273 w_274 w_64 w_275) a_Tape_add ⟨rfl, rfl, Nat.le_of_ble_eq_true rfl, Nat.le_of_ble_eq_true rfl⟩ rfl rfl (Nat.le_of_ble_eq_true rfl) d_Main_feed_76 (fun H locs hw => ?_)
                refine lv_iload_n hx hb d_Main_feed_79 rfl (lv_at hl 1 rfl) ?_
                refine lv_iconst (v := 1) hx hb d_Main_feed_80 (by decide) ?_
                refine lv_icmp_le (tgt := 92) hx hb d_Main_feed_81 (by decide) (fun c_14 => ?_) (fun c_14 => ?_)
                · replace hF := ifT hF c_14
                  exact q_Main_feed_92 hn K _ _ _ _ _ _ _ _  hw (lv_sub hl [0, 1, 4, 5, 6] rfl) hF
                · replace hF := ifF hF c_14
                  refine lv_aload_n hx hb d_Main_feed_84 rfl (lv_at hl 0 rfl) ?_
                  refine r_get (v := .ref (ad 0)) K hw i_Main (sh_Main (Nat.le_trans (Nat.le_of_ble_eq_true rfl) hn)) rfl 5 (by decide) w_603 rfl rfl rfl d_Main_feed_85 ?_
                  refine lv_iload_n hx hb d_Main_feed_88 rfl (lv_at hl 3 rfl) ?_
                  obtain ⟨s_21, h_s_21, hF⟩ := ob1E hF
                  refine r_callVV (As := [.int v3]) (rest := []) K hw hl.1 (c_Tape_add (l := l) (D := D) (cA := cA) (ad := ad) (s0 := s_13) (Nat.le_trans (Nat.le_of_ble_eq_true rfl) hn)  h_s_21) (sh_Tape (Nat.le_trans (Nat.le_of_ble_eq_true rfl) hn)) rfl (tb_gV w_272 w_273 w_274 w_64 w_275) a_Tape_add ⟨rfl, rfl, Nat.le_of_ble_eq_true rfl, Nat.le_of_ble_eq_true rfl⟩ rfl rfl (Nat.le_of_ble_eq_true rfl) d_Main_feed_89 (fun H locs hw => ?_)
                  exact q_Main_feed_92 hn K _ _ _ _ _ _ _ _  hw (lv_sub hl [0, 1, 4, 5, 6] rfl) hF
              · replace hF := ifF hF c_12
                refine lv_bipush (v := -4) hx hb d_Main_feed_68 (by decide) ?_
                obtain ⟨hF, hG⟩ := sE2 hF
                subst hF
                subst hG
                exact r_iret K hw d_Main_feed_70
            · replace hF := ifN hF c_11
              refine lv_bipush (v := -2) hx hb d_Main_feed_50 (by decide) ?_
              obtain ⟨hF, hG⟩ := sE2 hF
              subst hF
              subst hG
              exact r_iret K hw d_Main_feed_52
  · replace hF := ifN hF c_1
    refine lv_bipush (v := -2) hx hb d_Main_feed_9 (by decide) ?_
    obtain ⟨hF, hG⟩ := sE2 hF
    subst hF
    subst hG
    exact r_iret K hw d_Main_feed_11
end S_Main_feed
noncomputable abbrev F_Main_feed := F_Main_feed_0
theorem c_Main_feed {l : Launch} {D : va_G} {cA : Nat → ClassId} {ad : Nat → Nat} {s0 τ : St} {nC : Nat} (hn : 21 ≤ nC) {r : Int32} {v1 : Int32} {v2 : Int32} {v3 : Int32} {v4 : Int32} {v5 : Int32} {v6 : Int32}  (hF : F_Main_feed s0 v1 v2 v3 v4 v5 v6 = (some (r, τ))) : MI l D cA ad (shC.take nC) y_Main_feed (wT y_Main_feed b_Main_feed 7 (some .int)) rm_Main_feed [.ref (ad 20), .int v1, .int v2, .int v3, .int v4, .int v5, .int v6] s0 r τ := fun sz => m_start (Qc := fun A => QcI D cA ad (shC.take nC) A r τ) (by decide +kernel) w_639 (Nat.le_of_ble_eq_true rfl) (fun p e s m below meth c ls K hl hw => q_Main_feed_0 hn K _ _ _ _ _ _ _ _ _ _  hw hl hF)

/-! Tokens.place(I)I -/
abbrev b_Tokens_place : ByteArray := prog_11_method_5_code
def y_Tokens_place : MethodName := ⟨R_Tokens, "place", "(I)I"⟩
theorem a_Tokens_place : y_Tokens_place.cls = R_Tokens ∧ y_Tokens_place.cls ≠ "java/lang/invoke/MethodHandle" ∧ y_Tokens_place.cls ≠ "java/lang/invoke/VarHandle" ∧ (parseMethodDescriptor y_Tokens_place.desc).map (fun d => d.parameters.length) = some 1 := by decide +kernel
abbrev rm_Tokens_place : Room := { frames := 0, cells := 0, slots := 0, locals := 0 }
theorem w_288 : Cond.fieldLink R_Tokens 21 R_Tokens "tape" "LArmAgainstArm$Tape;" ∈ TB := tb_in 288 (by decide +kernel) (by decide +kernel)
theorem w_103 : Cond.fieldLink R_Tokens 32 R_Tape "size" "I" ∈ TB := tb_in 103 (by decide +kernel) (by decide +kernel)
theorem w_292 : Cond.fieldLink R_Tokens 25 R_Tokens "size" "I" ∈ TB := tb_in 292 (by decide +kernel) (by decide +kernel)
theorem w_291 : Cond.fieldLink R_Tokens 18 R_Tokens "places" "[I" ∈ TB := tb_in 291 (by decide +kernel) (by decide +kernel)
theorem w_456 : Cond.code y_Tokens_place b_Tokens_place 2 (some .int) ∈ TB := tb_in 456 (by decide +kernel) (by decide +kernel)
theorem d_Tokens_place_0 : decode b_Tokens_place 0 = .ok (.iload_n 1, 1) := by decide +kernel
theorem d_Tokens_place_1 : decode b_Tokens_place 1 = .ok (.ifCond .lt 20, 3) := by decide +kernel
theorem d_Tokens_place_4 : decode b_Tokens_place 4 = .ok (.iload_n 1, 1) := by decide +kernel
theorem d_Tokens_place_5 : decode b_Tokens_place 5 = .ok (.aload_n 0, 1) := by decide +kernel
theorem d_Tokens_place_6 : decode b_Tokens_place 6 = .ok (.getfield 25, 3) := by decide +kernel
theorem d_Tokens_place_9 : decode b_Tokens_place 9 = .ok (.if_icmp .ge 12, 3) := by decide +kernel
theorem d_Tokens_place_12 : decode b_Tokens_place 12 = .ok (.aload_n 0, 1) := by decide +kernel
theorem d_Tokens_place_13 : decode b_Tokens_place 13 = .ok (.getfield 18, 3) := by decide +kernel
theorem d_Tokens_place_16 : decode b_Tokens_place 16 = .ok (.iload_n 1, 1) := by decide +kernel
theorem d_Tokens_place_17 : decode b_Tokens_place 17 = .ok (.iaload, 1) := by decide +kernel
theorem d_Tokens_place_18 : decode b_Tokens_place 18 = .ok (.goto 10, 3) := by decide +kernel
theorem d_Tokens_place_21 : decode b_Tokens_place 21 = .ok (.aload_n 0, 1) := by decide +kernel
theorem d_Tokens_place_22 : decode b_Tokens_place 22 = .ok (.getfield 21, 3) := by decide +kernel
theorem d_Tokens_place_25 : decode b_Tokens_place 25 = .ok (.getfield 32, 3) := by decide +kernel
theorem d_Tokens_place_28 : decode b_Tokens_place 28 = .ok (.ireturn, 1) := by decide +kernel
section S_Tokens_place
variable {p : Program} {l : Launch} {e : Env} {s : State} {m : MethodId} {args : Array Value} {below : List Frame} {meth : Method} {c : Code} {D : va_G} {cA : Nat → ClassId} {ad : Nat → Nat} {nC : Nat} {A : Nat → Prop} {r : Int32} {τ : St}
noncomputable def F_Tokens_place_21 (s0 : St) : Option Int32 := (some (s0.1 0 1))
set_option maxHeartbeats 4000000 in
set_option maxRecDepth 100000 in
theorem q_Tokens_place_21 (hn : 7 ≤ nC) (s0 : St) (K : Fx p s m args meth c b_Tokens_place 2 R_Tokens (some .int))  : ∀ (H : Heap) (locs : List Loc) (ls : Array Slot), Wh D cA ad (shC.take nC) A s s0 H locs → lv_has ls 2 [(0, .ref (ad 3))] → F_Tokens_place_21 s0  = (some r) → W p l e rm_Tokens_place s m args below meth c H locs 0 0 (MQ below (QcI D cA ad (shC.take nC) A r s0) args s 0 0 A) (F0 m 21 ls []) := by
  have hx := K.1.1; have hb := K.1.2.1
  intro H locs ls  hw hl hF
  unfold F_Tokens_place_21 at hF
  refine lv_aload_n hx hb d_Tokens_place_21 rfl (lv_at hl 0 rfl) ?_
  refine r_get (v := .ref (ad 0)) K hw i_Tokens (sh_Tokens (Nat.le_trans (Nat.le_of_ble_eq_true rfl) hn)) rfl 0 (by decide) w_288 rfl rfl rfl d_Tokens_place_22 ?_
  refine r_get (v := .int (s0.1 0 1)) K hw i_Tape (sh_Tape (Nat.le_trans (Nat.le_of_ble_eq_true rfl) hn)) rfl 1 (by decide) w_103 rfl rfl rfl d_Tokens_place_25 ?_
  replace hF := sE1 hF
  subst hF
  exact r_iret K hw d_Tokens_place_28
noncomputable def F_Tokens_place_0 (s0 : St) (v1 : Int32) : Option Int32 := (if v1 < 0 then (F_Tokens_place_21 s0 ) else (if (s0.1 3 4) ≤ v1 then (F_Tokens_place_21 s0 ) else (if inB v1 161 = true then (some (s0.1 6 v1.toNatClampNeg)) else none)))
set_option maxHeartbeats 4000000 in
set_option maxRecDepth 100000 in
theorem q_Tokens_place_0 (hn : 7 ≤ nC) (s0 : St) (K : Fx p s m args meth c b_Tokens_place 2 R_Tokens (some .int))  : ∀ (H : Heap) (locs : List Loc) (ls : Array Slot) (v1 : Int32), Wh D cA ad (shC.take nC) A s s0 H locs → lv_has ls 2 [(0, .ref (ad 3)), (1, .int v1)] → F_Tokens_place_0 s0 v1 = (some r) → W p l e rm_Tokens_place s m args below meth c H locs 0 0 (MQ below (QcI D cA ad (shC.take nC) A r s0) args s 0 0 A) (F0 m 0 ls []) := by
  have hx := K.1.1; have hb := K.1.2.1
  intro H locs ls v1 hw hl hF
  unfold F_Tokens_place_0 at hF
  refine lv_iload_n hx hb d_Tokens_place_0 rfl (lv_at hl 1 rfl) ?_
  refine lv_if_lt (tgt := 21) hx hb d_Tokens_place_1 (by decide) (fun c_1 => ?_) (fun c_1 => ?_)
  · replace hF := ifT hF c_1
    exact q_Tokens_place_21 hn s0 K _ _ _  hw (lv_sub hl [0] rfl) hF
  · replace hF := ifF hF c_1
    refine lv_iload_n hx hb d_Tokens_place_4 rfl (lv_at hl 1 rfl) ?_
    refine lv_aload_n hx hb d_Tokens_place_5 rfl (lv_at hl 0 rfl) ?_
    refine r_get (v := .int (s0.1 3 4)) K hw i_Tokens (sh_Tokens (Nat.le_trans (Nat.le_of_ble_eq_true rfl) hn)) rfl 4 (by decide) w_292 rfl rfl rfl d_Tokens_place_6 ?_
    refine lv_icmp_ge (tgt := 21) hx hb d_Tokens_place_9 (by decide) (fun c_2 => ?_) (fun c_2 => ?_)
    · replace hF := ifT hF c_2
      exact q_Tokens_place_21 hn s0 K _ _ _  hw (lv_sub hl [0] rfl) hF
    · replace hF := ifF hF c_2
      refine lv_aload_n hx hb d_Tokens_place_12 rfl (lv_at hl 0 rfl) ?_
      refine r_get (v := .ref (ad 6)) K hw i_Tokens (sh_Tokens (Nat.le_trans (Nat.le_of_ble_eq_true rfl) hn)) rfl 3 (by decide) w_291 rfl rfl rfl d_Tokens_place_13 ?_
      refine lv_iload_n hx hb d_Tokens_place_16 rfl (lv_at hl 1 rfl) ?_
      obtain ⟨g_3, hF⟩ := ifG hF
      refine r_iald (k := v1.toNatClampNeg) K hw (sh_a6 (Nat.le_trans (Nat.le_of_ble_eq_true rfl) hn)) rfl (inB_vp g_3) d_Tokens_place_17 ?_
      refine lv_goto (tgt := 28) hx hb d_Tokens_place_18 (by decide) ?_
      replace hF := sE1 hF
      subst hF
      exact r_iret K hw d_Tokens_place_28
end S_Tokens_place
noncomputable abbrev F_Tokens_place := F_Tokens_place_0
theorem c_Tokens_place {l : Launch} {D : va_G} {cA : Nat → ClassId} {ad : Nat → Nat} {s0 : St} {nC : Nat} (hn : 7 ≤ nC) {r : Int32} {v1 : Int32}  (hF : F_Tokens_place s0 v1 = (some r)) : MI l D cA ad (shC.take nC) y_Tokens_place (wT y_Tokens_place b_Tokens_place 2 (some .int)) rm_Tokens_place [.ref (ad 3), .int v1] s0 r s0 := fun sz => m_start (Qc := fun A => QcI D cA ad (shC.take nC) A r s0) (by decide +kernel) w_456 (Nat.le_of_ble_eq_true rfl) (fun p e s m below meth c ls K hl hw => q_Tokens_place_0 hn s0 K _ _ _ _  hw hl hF)

/-! Reader.fail()V -/
abbrev b_Reader_fail : ByteArray := prog_5_method_4_code
def y_Reader_fail : MethodName := ⟨R_Reader, "fail", "()V"⟩
theorem a_Reader_fail : y_Reader_fail.cls = R_Reader ∧ y_Reader_fail.cls ≠ "java/lang/invoke/MethodHandle" ∧ y_Reader_fail.cls ≠ "java/lang/invoke/VarHandle" ∧ (parseMethodDescriptor y_Reader_fail.desc).map (fun d => d.parameters.length) = some 0 := by decide +kernel
abbrev rm_Reader_fail : Room := { frames := 1, cells := 0, slots := 0, locals := 21 }
theorem w_312 : Cond.fieldLink R_Reader 33 R_Reader "fault" "I" ∈ TB := tb_in 312 (by decide +kernel) (by decide +kernel)
theorem w_308 : Cond.fieldLink R_Reader 14 R_Reader "tokens" "LArmAgainstArm$Tokens;" ∈ TB := tb_in 308 (by decide +kernel) (by decide +kernel)
theorem w_311 : Cond.fieldLink R_Reader 29 R_Reader "at" "I" ∈ TB := tb_in 311 (by decide +kernel) (by decide +kernel)
theorem w_453 : Cond.methodLink R_Reader 54 y_Tokens_place ∈ TB := tb_in 453 (by decide +kernel) (by decide +kernel)
theorem w_454 : Cond.instanceMethod y_Tokens_place ∈ TB := tb_in 454 (by decide +kernel) (by decide +kernel)
theorem w_455 : Cond.selects R_Tokens y_Tokens_place y_Tokens_place ∈ TB := tb_in 455 (by decide +kernel) (by decide +kernel)
theorem w_74 : Cond.initialized R_Tokens ∈ TB := tb_in 74 (by decide +kernel) (by decide +kernel)
theorem w_452 : Cond.code y_Reader_fail b_Reader_fail 1 none ∈ TB := tb_in 452 (by decide +kernel) (by decide +kernel)
theorem d_Reader_fail_0 : decode b_Reader_fail 0 = .ok (.aload_n 0, 1) := by decide +kernel
theorem d_Reader_fail_1 : decode b_Reader_fail 1 = .ok (.getfield 33, 3) := by decide +kernel
theorem d_Reader_fail_4 : decode b_Reader_fail 4 = .ok (.iconst (-1), 1) := by decide +kernel
theorem d_Reader_fail_5 : decode b_Reader_fail 5 = .ok (.if_icmp .ne 18, 3) := by decide +kernel
theorem d_Reader_fail_8 : decode b_Reader_fail 8 = .ok (.aload_n 0, 1) := by decide +kernel
theorem d_Reader_fail_9 : decode b_Reader_fail 9 = .ok (.aload_n 0, 1) := by decide +kernel
theorem d_Reader_fail_10 : decode b_Reader_fail 10 = .ok (.getfield 14, 3) := by decide +kernel
theorem d_Reader_fail_13 : decode b_Reader_fail 13 = .ok (.aload_n 0, 1) := by decide +kernel
theorem d_Reader_fail_14 : decode b_Reader_fail 14 = .ok (.getfield 29, 3) := by decide +kernel
theorem d_Reader_fail_17 : decode b_Reader_fail 17 = .ok (.invokevirtual 54, 3) := by decide +kernel
theorem d_Reader_fail_20 : decode b_Reader_fail 20 = .ok (.putfield 33, 3) := by decide +kernel
theorem d_Reader_fail_23 : decode b_Reader_fail 23 = .ok (.return_, 1) := by decide +kernel
section S_Reader_fail
variable {p : Program} {l : Launch} {e : Env} {s : State} {m : MethodId} {args : Array Value} {below : List Frame} {meth : Method} {c : Code} {D : va_G} {cA : Nat → ClassId} {ad : Nat → Nat} {nC : Nat} {A : Nat → Prop} {τ : St}
noncomputable def F_Reader_fail_0 (s0 : St) : Option St := (if ¬ (s0.1 2 3) = (-1 : Int32) then (some s0) else (ob1 (F_Tokens_place s0 (s0.1 2 2)) (fun r_2 => (lt (up1 s0 2 3 r_2) (fun s_3 => (some s_3))))))
set_option maxHeartbeats 4000000 in
set_option maxRecDepth 100000 in
theorem q_Reader_fail_0 (hn : 7 ≤ nC) (K : Fx p s m args meth c b_Reader_fail 1 R_Reader none)  : ∀ (H : Heap) (locs : List Loc) (ls : Array Slot) (s0 : St), Wh D cA ad (shC.take nC) A s s0 H locs → lv_has ls 1 [(0, .ref (ad 2))] → F_Reader_fail_0 s0 = (some τ) → W p l e rm_Reader_fail s m args below meth c H locs 0 0 (MQ below (QcV D cA ad (shC.take nC) A τ) args s 0 0 A) (F0 m 0 ls []) := by
  have hx := K.1.1; have hb := K.1.2.1
  intro H locs ls s0 hw hl hF
  unfold F_Reader_fail_0 at hF
  refine lv_aload_n hx hb d_Reader_fail_0 rfl (lv_at hl 0 rfl) ?_
  refine r_get (v := .int (s0.1 2 3)) K hw i_Reader (sh_Reader (Nat.le_trans (Nat.le_of_ble_eq_true rfl) hn)) rfl 3 (by decide) w_312 rfl rfl rfl d_Reader_fail_1 ?_
  refine lv_iconst (v := -1) hx hb d_Reader_fail_4 (by decide) ?_
  refine lv_icmp_ne (tgt := 23) hx hb d_Reader_fail_5 (by decide) (fun c_1 => ?_) (fun c_1 => ?_)
  · replace hF := ifT hF c_1
    replace hF := sE1 hF
    subst hF
    exact r_vret K hw d_Reader_fail_23
  · replace hF := ifN hF c_1
    refine lv_aload_n hx hb d_Reader_fail_8 rfl (lv_at hl 0 rfl) ?_
    refine lv_aload_n hx hb d_Reader_fail_9 rfl (lv_at hl 0 rfl) ?_
    refine r_get (v := .ref (ad 3)) K hw i_Reader (sh_Reader (Nat.le_trans (Nat.le_of_ble_eq_true rfl) hn)) rfl 0 (by decide) w_308 rfl rfl rfl d_Reader_fail_10 ?_
    refine lv_aload_n hx hb d_Reader_fail_13 rfl (lv_at hl 0 rfl) ?_
    refine r_get (v := .int (s0.1 2 2)) K hw i_Reader (sh_Reader (Nat.le_trans (Nat.le_of_ble_eq_true rfl) hn)) rfl 2 (by decide) w_311 rfl rfl rfl d_Reader_fail_14 ?_
    obtain ⟨r_2, h_r_2, hF⟩ := ob1E hF
    refine r_callVI (As := [.int (s0.1 2 2)]) (rest := [.ref (ad 2)]) K hw hl.1 (c_Tokens_place (l := l) (D := D) (cA := cA) (ad := ad) (s0 := s0) (Nat.le_trans (Nat.le_of_ble_eq_true rfl) hn)  h_r_2) (sh_Tokens (Nat.le_trans (Nat.le_of_ble_eq_true rfl) hn)) rfl (tb_gV w_453 w_454 w_455 w_74 w_456) a_Tokens_place ⟨rfl, rfl, Nat.le_of_ble_eq_true rfl, Nat.le_of_ble_eq_true rfl⟩ rfl rfl (Nat.le_of_ble_eq_true rfl) d_Reader_fail_17 (fun H locs hw => ?_)
    refine r_putI K hw i_Reader t_Reader t_Reader_ok n_Reader (sh_Reader (Nat.le_trans (Nat.le_of_ble_eq_true rfl) hn)) rfl 3 (by decide) w_312 rfl rfl rfl rfl rfl d_Reader_fail_20 (fun s_3 f_s_3 H locs hw => ?_)
    replace hF := ltN hF f_s_3
    replace hF := sE1 hF
    subst hF
    exact r_vret K hw d_Reader_fail_23
end S_Reader_fail
noncomputable abbrev F_Reader_fail := F_Reader_fail_0
theorem c_Reader_fail {l : Launch} {D : va_G} {cA : Nat → ClassId} {ad : Nat → Nat} {s0 τ : St} {nC : Nat} (hn : 7 ≤ nC)   (hF : F_Reader_fail s0 = (some τ)) : MV l D cA ad (shC.take nC) y_Reader_fail (wT y_Reader_fail b_Reader_fail 1 none) rm_Reader_fail [.ref (ad 2)] s0 τ := fun sz => m_start (Qc := fun A => QcV D cA ad (shC.take nC) A τ) (by decide +kernel) w_452 (Nat.le_of_ble_eq_true rfl) (fun p e s m below meth c ls K hl hw => q_Reader_fail_0 hn K _ _ _ _   hw hl hF)

/-! Tokens.kind(I)I -/
abbrev b_Tokens_kind : ByteArray := prog_11_method_3_code
def y_Tokens_kind : MethodName := ⟨R_Tokens, "kind", "(I)I"⟩
theorem a_Tokens_kind : y_Tokens_kind.cls = R_Tokens ∧ y_Tokens_kind.cls ≠ "java/lang/invoke/MethodHandle" ∧ y_Tokens_kind.cls ≠ "java/lang/invoke/VarHandle" ∧ (parseMethodDescriptor y_Tokens_kind.desc).map (fun d => d.parameters.length) = some 1 := by decide +kernel
abbrev rm_Tokens_kind : Room := { frames := 0, cells := 0, slots := 0, locals := 0 }
theorem w_289 : Cond.fieldLink R_Tokens 11 R_Tokens "kinds" "[I" ∈ TB := tb_in 289 (by decide +kernel) (by decide +kernel)
theorem w_448 : Cond.code y_Tokens_kind b_Tokens_kind 2 (some .int) ∈ TB := tb_in 448 (by decide +kernel) (by decide +kernel)
theorem d_Tokens_kind_0 : decode b_Tokens_kind 0 = .ok (.iload_n 1, 1) := by decide +kernel
theorem d_Tokens_kind_1 : decode b_Tokens_kind 1 = .ok (.ifCond .lt 20, 3) := by decide +kernel
theorem d_Tokens_kind_4 : decode b_Tokens_kind 4 = .ok (.iload_n 1, 1) := by decide +kernel
theorem d_Tokens_kind_5 : decode b_Tokens_kind 5 = .ok (.aload_n 0, 1) := by decide +kernel
theorem d_Tokens_kind_6 : decode b_Tokens_kind 6 = .ok (.getfield 25, 3) := by decide +kernel
theorem d_Tokens_kind_9 : decode b_Tokens_kind 9 = .ok (.if_icmp .ge 12, 3) := by decide +kernel
theorem d_Tokens_kind_12 : decode b_Tokens_kind 12 = .ok (.aload_n 0, 1) := by decide +kernel
theorem d_Tokens_kind_13 : decode b_Tokens_kind 13 = .ok (.getfield 11, 3) := by decide +kernel
theorem d_Tokens_kind_16 : decode b_Tokens_kind 16 = .ok (.iload_n 1, 1) := by decide +kernel
theorem d_Tokens_kind_17 : decode b_Tokens_kind 17 = .ok (.iaload, 1) := by decide +kernel
theorem d_Tokens_kind_18 : decode b_Tokens_kind 18 = .ok (.goto 4, 3) := by decide +kernel
theorem d_Tokens_kind_21 : decode b_Tokens_kind 21 = .ok (.iconst 0, 1) := by decide +kernel
theorem d_Tokens_kind_22 : decode b_Tokens_kind 22 = .ok (.ireturn, 1) := by decide +kernel
section S_Tokens_kind
variable {p : Program} {l : Launch} {e : Env} {s : State} {m : MethodId} {args : Array Value} {below : List Frame} {meth : Method} {c : Code} {D : va_G} {cA : Nat → ClassId} {ad : Nat → Nat} {nC : Nat} {A : Nat → Prop} {r : Int32} {τ : St}
noncomputable def F_Tokens_kind_0 (s0 : St) (v1 : Int32) : Option Int32 := (if v1 < 0 then (some (0 : Int32)) else (if (s0.1 3 4) ≤ v1 then (some (0 : Int32)) else (if inB v1 161 = true then (some (s0.1 4 v1.toNatClampNeg)) else none)))
set_option maxHeartbeats 4000000 in
set_option maxRecDepth 100000 in
theorem q_Tokens_kind_0 (hn : 5 ≤ nC) (s0 : St) (K : Fx p s m args meth c b_Tokens_kind 2 R_Tokens (some .int))  : ∀ (H : Heap) (locs : List Loc) (ls : Array Slot) (v1 : Int32), Wh D cA ad (shC.take nC) A s s0 H locs → lv_has ls 2 [(0, .ref (ad 3)), (1, .int v1)] → F_Tokens_kind_0 s0 v1 = (some r) → W p l e rm_Tokens_kind s m args below meth c H locs 0 0 (MQ below (QcI D cA ad (shC.take nC) A r s0) args s 0 0 A) (F0 m 0 ls []) := by
  have hx := K.1.1; have hb := K.1.2.1
  intro H locs ls v1 hw hl hF
  unfold F_Tokens_kind_0 at hF
  refine lv_iload_n hx hb d_Tokens_kind_0 rfl (lv_at hl 1 rfl) ?_
  refine lv_if_lt (tgt := 21) hx hb d_Tokens_kind_1 (by decide) (fun c_1 => ?_) (fun c_1 => ?_)
  · replace hF := ifT hF c_1
    refine lv_iconst (v := 0) hx hb d_Tokens_kind_21 (by decide) ?_
    replace hF := sE1 hF
    subst hF
    exact r_iret K hw d_Tokens_kind_22
  · replace hF := ifF hF c_1
    refine lv_iload_n hx hb d_Tokens_kind_4 rfl (lv_at hl 1 rfl) ?_
    refine lv_aload_n hx hb d_Tokens_kind_5 rfl (lv_at hl 0 rfl) ?_
    refine r_get (v := .int (s0.1 3 4)) K hw i_Tokens (sh_Tokens (Nat.le_trans (Nat.le_of_ble_eq_true rfl) hn)) rfl 4 (by decide) w_292 rfl rfl rfl d_Tokens_kind_6 ?_
    refine lv_icmp_ge (tgt := 21) hx hb d_Tokens_kind_9 (by decide) (fun c_2 => ?_) (fun c_2 => ?_)
    · replace hF := ifT hF c_2
      refine lv_iconst (v := 0) hx hb d_Tokens_kind_21 (by decide) ?_
      replace hF := sE1 hF
      subst hF
      exact r_iret K hw d_Tokens_kind_22
    · replace hF := ifF hF c_2
      refine lv_aload_n hx hb d_Tokens_kind_12 rfl (lv_at hl 0 rfl) ?_
      refine r_get (v := .ref (ad 4)) K hw i_Tokens (sh_Tokens (Nat.le_trans (Nat.le_of_ble_eq_true rfl) hn)) rfl 1 (by decide) w_289 rfl rfl rfl d_Tokens_kind_13 ?_
      refine lv_iload_n hx hb d_Tokens_kind_16 rfl (lv_at hl 1 rfl) ?_
      obtain ⟨g_3, hF⟩ := ifG hF
      refine r_iald (k := v1.toNatClampNeg) K hw (sh_a4 (Nat.le_trans (Nat.le_of_ble_eq_true rfl) hn)) rfl (inB_vp g_3) d_Tokens_kind_17 ?_
      refine lv_goto (tgt := 22) hx hb d_Tokens_kind_18 (by decide) ?_
      replace hF := sE1 hF
      subst hF
      exact r_iret K hw d_Tokens_kind_22
end S_Tokens_kind
noncomputable abbrev F_Tokens_kind := F_Tokens_kind_0
theorem c_Tokens_kind {l : Launch} {D : va_G} {cA : Nat → ClassId} {ad : Nat → Nat} {s0 : St} {nC : Nat} (hn : 5 ≤ nC) {r : Int32} {v1 : Int32}  (hF : F_Tokens_kind s0 v1 = (some r)) : MI l D cA ad (shC.take nC) y_Tokens_kind (wT y_Tokens_kind b_Tokens_kind 2 (some .int)) rm_Tokens_kind [.ref (ad 3), .int v1] s0 r s0 := fun sz => m_start (Qc := fun A => QcI D cA ad (shC.take nC) A r s0) (by decide +kernel) w_448 (Nat.le_of_ble_eq_true rfl) (fun p e s m below meth c ls K hl hw => q_Tokens_kind_0 hn s0 K _ _ _ _  hw hl hF)

/-! Reader.is(I)Z -/
abbrev b_Reader_is : ByteArray := prog_5_method_3_code
def y_Reader_is : MethodName := ⟨R_Reader, "is", "(I)Z"⟩
theorem a_Reader_is : y_Reader_is.cls = R_Reader ∧ y_Reader_is.cls ≠ "java/lang/invoke/MethodHandle" ∧ y_Reader_is.cls ≠ "java/lang/invoke/VarHandle" ∧ (parseMethodDescriptor y_Reader_is.desc).map (fun d => d.parameters.length) = some 1 := by decide +kernel
abbrev rm_Reader_is : Room := { frames := 1, cells := 0, slots := 0, locals := 21 }
theorem w_445 : Cond.methodLink R_Reader 50 y_Tokens_kind ∈ TB := tb_in 445 (by decide +kernel) (by decide +kernel)
theorem w_446 : Cond.instanceMethod y_Tokens_kind ∈ TB := tb_in 446 (by decide +kernel) (by decide +kernel)
theorem w_447 : Cond.selects R_Tokens y_Tokens_kind y_Tokens_kind ∈ TB := tb_in 447 (by decide +kernel) (by decide +kernel)
theorem w_444 : Cond.code y_Reader_is b_Reader_is 2 (some .boolean) ∈ TB := tb_in 444 (by decide +kernel) (by decide +kernel)
theorem d_Reader_is_0 : decode b_Reader_is 0 = .ok (.aload_n 0, 1) := by decide +kernel
theorem d_Reader_is_1 : decode b_Reader_is 1 = .ok (.getfield 33, 3) := by decide +kernel
theorem d_Reader_is_4 : decode b_Reader_is 4 = .ok (.iconst (-1), 1) := by decide +kernel
theorem d_Reader_is_5 : decode b_Reader_is 5 = .ok (.if_icmp .ne 22, 3) := by decide +kernel
theorem d_Reader_is_8 : decode b_Reader_is 8 = .ok (.aload_n 0, 1) := by decide +kernel
theorem d_Reader_is_9 : decode b_Reader_is 9 = .ok (.getfield 14, 3) := by decide +kernel
theorem d_Reader_is_12 : decode b_Reader_is 12 = .ok (.aload_n 0, 1) := by decide +kernel
theorem d_Reader_is_13 : decode b_Reader_is 13 = .ok (.getfield 29, 3) := by decide +kernel
theorem d_Reader_is_16 : decode b_Reader_is 16 = .ok (.invokevirtual 50, 3) := by decide +kernel
theorem d_Reader_is_19 : decode b_Reader_is 19 = .ok (.iload_n 1, 1) := by decide +kernel
theorem d_Reader_is_20 : decode b_Reader_is 20 = .ok (.if_icmp .ne 7, 3) := by decide +kernel
theorem d_Reader_is_23 : decode b_Reader_is 23 = .ok (.iconst 1, 1) := by decide +kernel
theorem d_Reader_is_24 : decode b_Reader_is 24 = .ok (.goto 4, 3) := by decide +kernel
theorem d_Reader_is_27 : decode b_Reader_is 27 = .ok (.iconst 0, 1) := by decide +kernel
theorem d_Reader_is_28 : decode b_Reader_is 28 = .ok (.ireturn, 1) := by decide +kernel
section S_Reader_is
variable {p : Program} {l : Launch} {e : Env} {s : State} {m : MethodId} {args : Array Value} {below : List Frame} {meth : Method} {c : Code} {D : va_G} {cA : Nat → ClassId} {ad : Nat → Nat} {nC : Nat} {A : Nat → Prop} {r : Int32} {τ : St}
noncomputable def F_Reader_is_0 (s0 : St) (v1 : Int32) : Option Int32 := (if ¬ (s0.1 2 3) = (-1 : Int32) then (some (0 : Int32)) else (ob1 (F_Tokens_kind s0 (s0.1 2 2)) (fun r_2 => (if ¬ r_2 = v1 then (some (0 : Int32)) else (some (1 : Int32))))))
set_option maxHeartbeats 4000000 in
set_option maxRecDepth 100000 in
theorem q_Reader_is_0 (hn : 5 ≤ nC) (s0 : St) (K : Fx p s m args meth c b_Reader_is 2 R_Reader (some .boolean))  : ∀ (H : Heap) (locs : List Loc) (ls : Array Slot) (v1 : Int32), Wh D cA ad (shC.take nC) A s s0 H locs → lv_has ls 2 [(0, .ref (ad 2)), (1, .int v1)] → F_Reader_is_0 s0 v1 = (some r) → W p l e rm_Reader_is s m args below meth c H locs 0 0 (MQ below (QcI D cA ad (shC.take nC) A r s0) args s 0 0 A) (F0 m 0 ls []) := by
  have hx := K.1.1; have hb := K.1.2.1
  intro H locs ls v1 hw hl hF
  unfold F_Reader_is_0 at hF
  refine lv_aload_n hx hb d_Reader_is_0 rfl (lv_at hl 0 rfl) ?_
  refine r_get (v := .int (s0.1 2 3)) K hw i_Reader (sh_Reader (Nat.le_trans (Nat.le_of_ble_eq_true rfl) hn)) rfl 3 (by decide) w_312 rfl rfl rfl d_Reader_is_1 ?_
  refine lv_iconst (v := -1) hx hb d_Reader_is_4 (by decide) ?_
  refine lv_icmp_ne (tgt := 27) hx hb d_Reader_is_5 (by decide) (fun c_1 => ?_) (fun c_1 => ?_)
  · replace hF := ifT hF c_1
    refine lv_iconst (v := 0) hx hb d_Reader_is_27 (by decide) ?_
    replace hF := sE1 hF
    subst hF
    exact r_zret K hw (by decide) d_Reader_is_28
  · replace hF := ifN hF c_1
    refine lv_aload_n hx hb d_Reader_is_8 rfl (lv_at hl 0 rfl) ?_
    refine r_get (v := .ref (ad 3)) K hw i_Reader (sh_Reader (Nat.le_trans (Nat.le_of_ble_eq_true rfl) hn)) rfl 0 (by decide) w_308 rfl rfl rfl d_Reader_is_9 ?_
    refine lv_aload_n hx hb d_Reader_is_12 rfl (lv_at hl 0 rfl) ?_
    refine r_get (v := .int (s0.1 2 2)) K hw i_Reader (sh_Reader (Nat.le_trans (Nat.le_of_ble_eq_true rfl) hn)) rfl 2 (by decide) w_311 rfl rfl rfl d_Reader_is_13 ?_
    obtain ⟨r_2, h_r_2, hF⟩ := ob1E hF
    refine r_callVI (As := [.int (s0.1 2 2)]) (rest := []) K hw hl.1 (c_Tokens_kind (l := l) (D := D) (cA := cA) (ad := ad) (s0 := s0) (Nat.le_trans (Nat.le_of_ble_eq_true rfl) hn)  h_r_2) (sh_Tokens (Nat.le_trans (Nat.le_of_ble_eq_true rfl) hn)) rfl (tb_gV w_445 w_446 w_447 w_74 w_448) a_Tokens_kind ⟨rfl, rfl, Nat.le_of_ble_eq_true rfl, Nat.le_of_ble_eq_true rfl⟩ rfl rfl (Nat.le_of_ble_eq_true rfl) d_Reader_is_16 (fun H locs hw => ?_)
    refine lv_iload_n hx hb d_Reader_is_19 rfl (lv_at hl 1 rfl) ?_
    refine lv_icmp_ne (tgt := 27) hx hb d_Reader_is_20 (by decide) (fun c_3 => ?_) (fun c_3 => ?_)
    · replace hF := ifT hF c_3
      refine lv_iconst (v := 0) hx hb d_Reader_is_27 (by decide) ?_
      replace hF := sE1 hF
      subst hF
      exact r_zret K hw (by decide) d_Reader_is_28
    · replace hF := ifN hF c_3
      refine lv_iconst (v := 1) hx hb d_Reader_is_23 (by decide) ?_
      refine lv_goto (tgt := 28) hx hb d_Reader_is_24 (by decide) ?_
      replace hF := sE1 hF
      subst hF
      exact r_zret K hw (by decide) d_Reader_is_28
end S_Reader_is
noncomputable abbrev F_Reader_is := F_Reader_is_0
theorem c_Reader_is {l : Launch} {D : va_G} {cA : Nat → ClassId} {ad : Nat → Nat} {s0 : St} {nC : Nat} (hn : 5 ≤ nC) {r : Int32} {v1 : Int32}  (hF : F_Reader_is s0 v1 = (some r)) : MI l D cA ad (shC.take nC) y_Reader_is (wT y_Reader_is b_Reader_is 2 (some .boolean)) rm_Reader_is [.ref (ad 2), .int v1] s0 r s0 := fun sz => m_start (Qc := fun A => QcI D cA ad (shC.take nC) A r s0) (by decide +kernel) w_444 (Nat.le_of_ble_eq_true rfl) (fun p e s m below meth c ls K hl hw => q_Reader_is_0 hn s0 K _ _ _ _  hw hl hF)

/-! Reader.expect(I)V -/
abbrev b_Reader_expect : ByteArray := prog_5_method_5_code
def y_Reader_expect : MethodName := ⟨R_Reader, "expect", "(I)V"⟩
theorem a_Reader_expect : y_Reader_expect.cls = R_Reader ∧ y_Reader_expect.cls ≠ "java/lang/invoke/MethodHandle" ∧ y_Reader_expect.cls ≠ "java/lang/invoke/VarHandle" ∧ (parseMethodDescriptor y_Reader_expect.desc).map (fun d => d.parameters.length) = some 1 := by decide +kernel
abbrev rm_Reader_expect : Room := { frames := 2, cells := 0, slots := 0, locals := 42 }
theorem w_441 : Cond.methodLink R_Reader 57 y_Reader_is ∈ TB := tb_in 441 (by decide +kernel) (by decide +kernel)
theorem w_443 : Cond.instanceMethod y_Reader_is ∈ TB := tb_in 443 (by decide +kernel) (by decide +kernel)
theorem w_6 : Cond.selects R_Reader y_Reader_is y_Reader_is ∈ TB := tb_in 6 (by decide +kernel) (by decide +kernel)
theorem w_73 : Cond.initialized R_Reader ∈ TB := tb_in 73 (by decide +kernel) (by decide +kernel)
theorem w_449 : Cond.methodLink R_Reader 61 y_Reader_fail ∈ TB := tb_in 449 (by decide +kernel) (by decide +kernel)
theorem w_451 : Cond.instanceMethod y_Reader_fail ∈ TB := tb_in 451 (by decide +kernel) (by decide +kernel)
theorem w_7 : Cond.selects R_Reader y_Reader_fail y_Reader_fail ∈ TB := tb_in 7 (by decide +kernel) (by decide +kernel)
theorem w_440 : Cond.code y_Reader_expect b_Reader_expect 2 none ∈ TB := tb_in 440 (by decide +kernel) (by decide +kernel)
theorem d_Reader_expect_0 : decode b_Reader_expect 0 = .ok (.aload_n 0, 1) := by decide +kernel
theorem d_Reader_expect_1 : decode b_Reader_expect 1 = .ok (.iload_n 1, 1) := by decide +kernel
theorem d_Reader_expect_2 : decode b_Reader_expect 2 = .ok (.invokevirtual 57, 3) := by decide +kernel
theorem d_Reader_expect_5 : decode b_Reader_expect 5 = .ok (.ifCond .eq 16, 3) := by decide +kernel
theorem d_Reader_expect_8 : decode b_Reader_expect 8 = .ok (.aload_n 0, 1) := by decide +kernel
theorem d_Reader_expect_9 : decode b_Reader_expect 9 = .ok (.dup, 1) := by decide +kernel
theorem d_Reader_expect_10 : decode b_Reader_expect 10 = .ok (.getfield 29, 3) := by decide +kernel
theorem d_Reader_expect_13 : decode b_Reader_expect 13 = .ok (.iconst 1, 1) := by decide +kernel
theorem d_Reader_expect_14 : decode b_Reader_expect 14 = .ok (.iadd, 1) := by decide +kernel
theorem d_Reader_expect_15 : decode b_Reader_expect 15 = .ok (.putfield 29, 3) := by decide +kernel
theorem d_Reader_expect_18 : decode b_Reader_expect 18 = .ok (.goto 7, 3) := by decide +kernel
theorem d_Reader_expect_21 : decode b_Reader_expect 21 = .ok (.aload_n 0, 1) := by decide +kernel
theorem d_Reader_expect_22 : decode b_Reader_expect 22 = .ok (.invokevirtual 61, 3) := by decide +kernel
theorem d_Reader_expect_25 : decode b_Reader_expect 25 = .ok (.return_, 1) := by decide +kernel
section S_Reader_expect
variable {p : Program} {l : Launch} {e : Env} {s : State} {m : MethodId} {args : Array Value} {below : List Frame} {meth : Method} {c : Code} {D : va_G} {cA : Nat → ClassId} {ad : Nat → Nat} {nC : Nat} {A : Nat → Prop} {τ : St}
noncomputable def F_Reader_expect_0 (s0 : St) (v1 : Int32) : Option St := (ob1 (F_Reader_is s0 v1) (fun r_1 => (if r_1 = 0 then (ob1 (F_Reader_fail s0 ) (fun s_3 => (some s_3))) else (lt (up1 s0 2 2 ((s0.1 2 2) + (1 : Int32))) (fun s_4 => (some s_4))))))
set_option maxHeartbeats 4000000 in
set_option maxRecDepth 100000 in
theorem q_Reader_expect_0 (hn : 7 ≤ nC) (K : Fx p s m args meth c b_Reader_expect 2 R_Reader none)  : ∀ (H : Heap) (locs : List Loc) (ls : Array Slot) (s0 : St) (v1 : Int32), Wh D cA ad (shC.take nC) A s s0 H locs → lv_has ls 2 [(0, .ref (ad 2)), (1, .int v1)] → F_Reader_expect_0 s0 v1 = (some τ) → W p l e rm_Reader_expect s m args below meth c H locs 0 0 (MQ below (QcV D cA ad (shC.take nC) A τ) args s 0 0 A) (F0 m 0 ls []) := by
  have hx := K.1.1; have hb := K.1.2.1
  intro H locs ls s0 v1 hw hl hF
  unfold F_Reader_expect_0 at hF
  refine lv_aload_n hx hb d_Reader_expect_0 rfl (lv_at hl 0 rfl) ?_
  refine lv_iload_n hx hb d_Reader_expect_1 rfl (lv_at hl 1 rfl) ?_
  obtain ⟨r_1, h_r_1, hF⟩ := ob1E hF
  refine r_callVI (As := [.int v1]) (rest := []) K hw hl.1 (c_Reader_is (l := l) (D := D) (cA := cA) (ad := ad) (s0 := s0) (Nat.le_trans (Nat.le_of_ble_eq_true rfl) hn)  h_r_1) (sh_Reader (Nat.le_trans (Nat.le_of_ble_eq_true rfl) hn)) rfl (tb_gV w_441 w_443 w_6 w_73 w_444) a_Reader_is ⟨rfl, rfl, Nat.le_of_ble_eq_true rfl, Nat.le_of_ble_eq_true rfl⟩ rfl rfl (Nat.le_of_ble_eq_true rfl) d_Reader_expect_2 (fun H locs hw => ?_)
  refine lv_if_eq (tgt := 21) hx hb d_Reader_expect_5 (by decide) (fun c_2 => ?_) (fun c_2 => ?_)
  · replace hF := ifT hF c_2
    refine lv_aload_n hx hb d_Reader_expect_21 rfl (lv_at hl 0 rfl) ?_
    obtain ⟨s_3, h_s_3, hF⟩ := ob1E hF
    refine r_callVV (As := []) (rest := []) K hw hl.1 (c_Reader_fail (l := l) (D := D) (cA := cA) (ad := ad) (s0 := s0) (Nat.le_trans (Nat.le_of_ble_eq_true rfl) hn)  h_s_3) (sh_Reader (Nat.le_trans (Nat.le_of_ble_eq_true rfl) hn)) rfl (tb_gV w_449 w_451 w_7 w_73 w_452) a_Reader_fail ⟨rfl, rfl, Nat.le_of_ble_eq_true rfl, Nat.le_of_ble_eq_true rfl⟩ rfl rfl (Nat.le_of_ble_eq_true rfl) d_Reader_expect_22 (fun H locs hw => ?_)
    replace hF := sE1 hF
    subst hF
    exact r_vret K hw d_Reader_expect_25
  · replace hF := ifF hF c_2
    refine lv_aload_n hx hb d_Reader_expect_8 rfl (lv_at hl 0 rfl) ?_
    refine lv_dup hx hb d_Reader_expect_9 rfl ?_
    refine r_get (v := .int (s0.1 2 2)) K hw i_Reader (sh_Reader (Nat.le_trans (Nat.le_of_ble_eq_true rfl) hn)) rfl 2 (by decide) w_311 rfl rfl rfl d_Reader_expect_10 ?_
    refine lv_iconst (v := 1) hx hb d_Reader_expect_13 (by decide) ?_
    refine lv_iadd hx hb d_Reader_expect_14 ?_
    refine r_putI K hw i_Reader t_Reader t_Reader_ok n_Reader (sh_Reader (Nat.le_trans (Nat.le_of_ble_eq_true rfl) hn)) rfl 2 (by decide) w_311 rfl rfl rfl rfl rfl d_Reader_expect_15 (fun s_4 f_s_4 H locs hw => ?_)
    replace hF := ltN hF f_s_4
    refine lv_goto (tgt := 25) hx hb d_Reader_expect_18 (by decide) ?_
    replace hF := sE1 hF
    subst hF
    exact r_vret K hw d_Reader_expect_25
end S_Reader_expect
noncomputable abbrev F_Reader_expect := F_Reader_expect_0
theorem c_Reader_expect {l : Launch} {D : va_G} {cA : Nat → ClassId} {ad : Nat → Nat} {s0 τ : St} {nC : Nat} (hn : 7 ≤ nC) {v1 : Int32}  (hF : F_Reader_expect s0 v1 = (some τ)) : MV l D cA ad (shC.take nC) y_Reader_expect (wT y_Reader_expect b_Reader_expect 2 none) rm_Reader_expect [.ref (ad 2), .int v1] s0 τ := fun sz => m_start (Qc := fun A => QcV D cA ad (shC.take nC) A τ) (by decide +kernel) w_440 (Nat.le_of_ble_eq_true rfl) (fun p e s m below meth c ls K hl hw => q_Reader_expect_0 hn K _ _ _ _ _  hw hl hF)

/-! Reader.isSignOf(I)Z -/
abbrev b_Reader_isSignOf : ByteArray := prog_5_method_10_code
def y_Reader_isSignOf : MethodName := ⟨R_Reader, "isSignOf", "(I)Z"⟩
theorem a_Reader_isSignOf : y_Reader_isSignOf.cls = R_Reader ∧ y_Reader_isSignOf.cls ≠ "java/lang/invoke/MethodHandle" ∧ y_Reader_isSignOf.cls ≠ "java/lang/invoke/VarHandle" ∧ (parseMethodDescriptor y_Reader_isSignOf.desc).map (fun d => d.parameters.length) = some 1 := by decide +kernel
abbrev rm_Reader_isSignOf : Room := { frames := 2, cells := 0, slots := 0, locals := 42 }
theorem w_484 : Cond.code y_Reader_isSignOf b_Reader_isSignOf 2 (some .boolean) ∈ TB := tb_in 484 (by decide +kernel) (by decide +kernel)
theorem d_Reader_isSignOf_0 : decode b_Reader_isSignOf 0 = .ok (.iload_n 1, 1) := by decide +kernel
theorem d_Reader_isSignOf_1 : decode b_Reader_isSignOf 1 = .ok (.tableswitch 93 0 3 #[31, 38, 45, 69], 31) := by decide +kernel
theorem d_Reader_isSignOf_32 : decode b_Reader_isSignOf 32 = .ok (.aload_n 0, 1) := by decide +kernel
theorem d_Reader_isSignOf_33 : decode b_Reader_isSignOf 33 = .ok (.bipush 13, 2) := by decide +kernel
theorem d_Reader_isSignOf_35 : decode b_Reader_isSignOf 35 = .ok (.invokevirtual 57, 3) := by decide +kernel
theorem d_Reader_isSignOf_38 : decode b_Reader_isSignOf 38 = .ok (.ireturn, 1) := by decide +kernel
theorem d_Reader_isSignOf_39 : decode b_Reader_isSignOf 39 = .ok (.aload_n 0, 1) := by decide +kernel
theorem d_Reader_isSignOf_40 : decode b_Reader_isSignOf 40 = .ok (.bipush 14, 2) := by decide +kernel
theorem d_Reader_isSignOf_42 : decode b_Reader_isSignOf 42 = .ok (.invokevirtual 57, 3) := by decide +kernel
theorem d_Reader_isSignOf_45 : decode b_Reader_isSignOf 45 = .ok (.ireturn, 1) := by decide +kernel
theorem d_Reader_isSignOf_46 : decode b_Reader_isSignOf 46 = .ok (.aload_n 0, 1) := by decide +kernel
theorem d_Reader_isSignOf_47 : decode b_Reader_isSignOf 47 = .ok (.bipush 60, 2) := by decide +kernel
theorem d_Reader_isSignOf_49 : decode b_Reader_isSignOf 49 = .ok (.invokevirtual 57, 3) := by decide +kernel
theorem d_Reader_isSignOf_52 : decode b_Reader_isSignOf 52 = .ok (.ifCond .ne 12, 3) := by decide +kernel
theorem d_Reader_isSignOf_55 : decode b_Reader_isSignOf 55 = .ok (.aload_n 0, 1) := by decide +kernel
theorem d_Reader_isSignOf_56 : decode b_Reader_isSignOf 56 = .ok (.bipush 61, 2) := by decide +kernel
theorem d_Reader_isSignOf_58 : decode b_Reader_isSignOf 58 = .ok (.invokevirtual 57, 3) := by decide +kernel
theorem d_Reader_isSignOf_61 : decode b_Reader_isSignOf 61 = .ok (.ifCond .eq 7, 3) := by decide +kernel
theorem d_Reader_isSignOf_64 : decode b_Reader_isSignOf 64 = .ok (.iconst 1, 1) := by decide +kernel
theorem d_Reader_isSignOf_65 : decode b_Reader_isSignOf 65 = .ok (.goto 4, 3) := by decide +kernel
theorem d_Reader_isSignOf_68 : decode b_Reader_isSignOf 68 = .ok (.iconst 0, 1) := by decide +kernel
theorem d_Reader_isSignOf_69 : decode b_Reader_isSignOf 69 = .ok (.ireturn, 1) := by decide +kernel
theorem d_Reader_isSignOf_70 : decode b_Reader_isSignOf 70 = .ok (.aload_n 0, 1) := by decide +kernel
theorem d_Reader_isSignOf_71 : decode b_Reader_isSignOf 71 = .ok (.bipush 43, 2) := by decide +kernel
theorem d_Reader_isSignOf_73 : decode b_Reader_isSignOf 73 = .ok (.invokevirtual 57, 3) := by decide +kernel
theorem d_Reader_isSignOf_76 : decode b_Reader_isSignOf 76 = .ok (.ifCond .ne 12, 3) := by decide +kernel
theorem d_Reader_isSignOf_79 : decode b_Reader_isSignOf 79 = .ok (.aload_n 0, 1) := by decide +kernel
theorem d_Reader_isSignOf_80 : decode b_Reader_isSignOf 80 = .ok (.bipush 45, 2) := by decide +kernel
theorem d_Reader_isSignOf_82 : decode b_Reader_isSignOf 82 = .ok (.invokevirtual 57, 3) := by decide +kernel
theorem d_Reader_isSignOf_85 : decode b_Reader_isSignOf 85 = .ok (.ifCond .eq 7, 3) := by decide +kernel
theorem d_Reader_isSignOf_88 : decode b_Reader_isSignOf 88 = .ok (.iconst 1, 1) := by decide +kernel
theorem d_Reader_isSignOf_89 : decode b_Reader_isSignOf 89 = .ok (.goto 4, 3) := by decide +kernel
theorem d_Reader_isSignOf_92 : decode b_Reader_isSignOf 92 = .ok (.iconst 0, 1) := by decide +kernel
theorem d_Reader_isSignOf_93 : decode b_Reader_isSignOf 93 = .ok (.ireturn, 1) := by decide +kernel
theorem d_Reader_isSignOf_94 : decode b_Reader_isSignOf 94 = .ok (.aload_n 0, 1) := by decide +kernel
theorem d_Reader_isSignOf_95 : decode b_Reader_isSignOf 95 = .ok (.bipush 42, 2) := by decide +kernel
theorem d_Reader_isSignOf_97 : decode b_Reader_isSignOf 97 = .ok (.invokevirtual 57, 3) := by decide +kernel
theorem d_Reader_isSignOf_100 : decode b_Reader_isSignOf 100 = .ok (.ireturn, 1) := by decide +kernel
section S_Reader_isSignOf
variable {p : Program} {l : Launch} {e : Env} {s : State} {m : MethodId} {args : Array Value} {below : List Frame} {meth : Method} {c : Code} {D : va_G} {cA : Nat → ClassId} {ad : Nat → Nat} {nC : Nat} {A : Nat → Prop} {r : Int32} {τ : St}
noncomputable def F_Reader_isSignOf_0 (s0 : St) (v1 : Int32) : Option Int32 := (if v1 = 0 then (ob1 (F_Reader_is s0 (13 : Int32)) (fun r_2 => (if (r_2 = 0 ∨ r_2 = 1) then (some r_2) else none))) else (if v1 = 1 then (ob1 (F_Reader_is s0 (14 : Int32)) (fun r_5 => (if (r_5 = 0 ∨ r_5 = 1) then (some r_5) else none))) else (if v1 = 2 then (ob1 (F_Reader_is s0 (60 : Int32)) (fun r_8 => (if ¬ r_8 = 0 then (some (1 : Int32)) else (ob1 (F_Reader_is s0 (61 : Int32)) (fun r_10 => (if r_10 = 0 then (some (0 : Int32)) else (some (1 : Int32)))))))) else (if v1 = 3 then (ob1 (F_Reader_is s0 (43 : Int32)) (fun r_13 => (if ¬ r_13 = 0 then (some (1 : Int32)) else (ob1 (F_Reader_is s0 (45 : Int32)) (fun r_15 => (if r_15 = 0 then (some (0 : Int32)) else (some (1 : Int32)))))))) else (ob1 (F_Reader_is s0 (42 : Int32)) (fun r_17 => (if (r_17 = 0 ∨ r_17 = 1) then (some r_17) else none)))))))
set_option maxHeartbeats 4000000 in
set_option maxRecDepth 100000 in
theorem q_Reader_isSignOf_0 (hn : 5 ≤ nC) (s0 : St) (K : Fx p s m args meth c b_Reader_isSignOf 2 R_Reader (some .boolean))  : ∀ (H : Heap) (locs : List Loc) (ls : Array Slot) (v1 : Int32), Wh D cA ad (shC.take nC) A s s0 H locs → lv_has ls 2 [(0, .ref (ad 2)), (1, .int v1)] → F_Reader_isSignOf_0 s0 v1 = (some r) → W p l e rm_Reader_isSignOf s m args below meth c H locs 0 0 (MQ below (QcI D cA ad (shC.take nC) A r s0) args s 0 0 A) (F0 m 0 ls []) := by
  have hx := K.1.1; have hb := K.1.2.1
  intro H locs ls v1 hw hl hF
  unfold F_Reader_isSignOf_0 at hF
  refine lv_iload_n hx hb d_Reader_isSignOf_0 rfl (lv_at hl 1 rfl) ?_
  by_cases c_1 : v1 = 0
  · replace hF := ifT hF c_1
    refine lv_tableIn (tgt := 32) hx hb d_Reader_isSignOf_1 (by rw [c_1]; decide) (by rw [c_1]; decide) (by rw [c_1]; rfl) (by decide) ?_
    refine lv_aload_n hx hb d_Reader_isSignOf_32 rfl (lv_at hl 0 rfl) ?_
    refine lv_bipush (v := 13) hx hb d_Reader_isSignOf_33 (by decide) ?_
    obtain ⟨r_2, h_r_2, hF⟩ := ob1E hF
    refine r_callVI (As := [.int (13 : Int32)]) (rest := []) K hw hl.1 (c_Reader_is (l := l) (D := D) (cA := cA) (ad := ad) (s0 := s0) (Nat.le_trans (Nat.le_of_ble_eq_true rfl) hn)  h_r_2) (sh_Reader (Nat.le_trans (Nat.le_of_ble_eq_true rfl) hn)) rfl (tb_gV w_441 w_443 w_6 w_73 w_444) a_Reader_is ⟨rfl, rfl, Nat.le_of_ble_eq_true rfl, Nat.le_of_ble_eq_true rfl⟩ rfl rfl (Nat.le_of_ble_eq_true rfl) d_Reader_isSignOf_35 (fun H locs hw => ?_)
    obtain ⟨g_3, hF⟩ := ifG hF
    replace hF := sE1 hF
    subst hF
    exact r_zret K hw (zN g_3) d_Reader_isSignOf_38
  replace hF := ifF hF c_1
  by_cases c_4 : v1 = 1
  · replace hF := ifT hF c_4
    refine lv_tableIn (tgt := 39) hx hb d_Reader_isSignOf_1 (by rw [c_4]; decide) (by rw [c_4]; decide) (by rw [c_4]; rfl) (by decide) ?_
    refine lv_aload_n hx hb d_Reader_isSignOf_39 rfl (lv_at hl 0 rfl) ?_
    refine lv_bipush (v := 14) hx hb d_Reader_isSignOf_40 (by decide) ?_
    obtain ⟨r_5, h_r_5, hF⟩ := ob1E hF
    refine r_callVI (As := [.int (14 : Int32)]) (rest := []) K hw hl.1 (c_Reader_is (l := l) (D := D) (cA := cA) (ad := ad) (s0 := s0) (Nat.le_trans (Nat.le_of_ble_eq_true rfl) hn)  h_r_5) (sh_Reader (Nat.le_trans (Nat.le_of_ble_eq_true rfl) hn)) rfl (tb_gV w_441 w_443 w_6 w_73 w_444) a_Reader_is ⟨rfl, rfl, Nat.le_of_ble_eq_true rfl, Nat.le_of_ble_eq_true rfl⟩ rfl rfl (Nat.le_of_ble_eq_true rfl) d_Reader_isSignOf_42 (fun H locs hw => ?_)
    obtain ⟨g_6, hF⟩ := ifG hF
    replace hF := sE1 hF
    subst hF
    exact r_zret K hw (zN g_6) d_Reader_isSignOf_45
  replace hF := ifF hF c_4
  by_cases c_7 : v1 = 2
  · replace hF := ifT hF c_7
    refine lv_tableIn (tgt := 46) hx hb d_Reader_isSignOf_1 (by rw [c_7]; decide) (by rw [c_7]; decide) (by rw [c_7]; rfl) (by decide) ?_
    refine lv_aload_n hx hb d_Reader_isSignOf_46 rfl (lv_at hl 0 rfl) ?_
    refine lv_bipush (v := 60) hx hb d_Reader_isSignOf_47 (by decide) ?_
    obtain ⟨r_8, h_r_8, hF⟩ := ob1E hF
    refine r_callVI (As := [.int (60 : Int32)]) (rest := []) K hw hl.1 (c_Reader_is (l := l) (D := D) (cA := cA) (ad := ad) (s0 := s0) (Nat.le_trans (Nat.le_of_ble_eq_true rfl) hn)  h_r_8) (sh_Reader (Nat.le_trans (Nat.le_of_ble_eq_true rfl) hn)) rfl (tb_gV w_441 w_443 w_6 w_73 w_444) a_Reader_is ⟨rfl, rfl, Nat.le_of_ble_eq_true rfl, Nat.le_of_ble_eq_true rfl⟩ rfl rfl (Nat.le_of_ble_eq_true rfl) d_Reader_isSignOf_49 (fun H locs hw => ?_)
    refine lv_if_ne (tgt := 64) hx hb d_Reader_isSignOf_52 (by decide) (fun c_9 => ?_) (fun c_9 => ?_)
    · replace hF := ifT hF c_9
      refine lv_iconst (v := 1) hx hb d_Reader_isSignOf_64 (by decide) ?_
      refine lv_goto (tgt := 69) hx hb d_Reader_isSignOf_65 (by decide) ?_
      replace hF := sE1 hF
      subst hF
      exact r_zret K hw (by decide) d_Reader_isSignOf_69
    · replace hF := ifN hF c_9
      refine lv_aload_n hx hb d_Reader_isSignOf_55 rfl (lv_at hl 0 rfl) ?_
      refine lv_bipush (v := 61) hx hb d_Reader_isSignOf_56 (by decide) ?_
      obtain ⟨r_10, h_r_10, hF⟩ := ob1E hF
      refine r_callVI (As := [.int (61 : Int32)]) (rest := []) K hw hl.1 (c_Reader_is (l := l) (D := D) (cA := cA) (ad := ad) (s0 := s0) (Nat.le_trans (Nat.le_of_ble_eq_true rfl) hn)  h_r_10) (sh_Reader (Nat.le_trans (Nat.le_of_ble_eq_true rfl) hn)) rfl (tb_gV w_441 w_443 w_6 w_73 w_444) a_Reader_is ⟨rfl, rfl, Nat.le_of_ble_eq_true rfl, Nat.le_of_ble_eq_true rfl⟩ rfl rfl (Nat.le_of_ble_eq_true rfl) d_Reader_isSignOf_58 (fun H locs hw => ?_)
      refine lv_if_eq (tgt := 68) hx hb d_Reader_isSignOf_61 (by decide) (fun c_11 => ?_) (fun c_11 => ?_)
      · replace hF := ifT hF c_11
        refine lv_iconst (v := 0) hx hb d_Reader_isSignOf_68 (by decide) ?_
        replace hF := sE1 hF
        subst hF
        exact r_zret K hw (by decide) d_Reader_isSignOf_69
      · replace hF := ifF hF c_11
        refine lv_iconst (v := 1) hx hb d_Reader_isSignOf_64 (by decide) ?_
        refine lv_goto (tgt := 69) hx hb d_Reader_isSignOf_65 (by decide) ?_
        replace hF := sE1 hF
        subst hF
        exact r_zret K hw (by decide) d_Reader_isSignOf_69
  replace hF := ifF hF c_7
  by_cases c_12 : v1 = 3
  · replace hF := ifT hF c_12
    refine lv_tableIn (tgt := 70) hx hb d_Reader_isSignOf_1 (by rw [c_12]; decide) (by rw [c_12]; decide) (by rw [c_12]; rfl) (by decide) ?_
    refine lv_aload_n hx hb d_Reader_isSignOf_70 rfl (lv_at hl 0 rfl) ?_
    refine lv_bipush (v := 43) hx hb d_Reader_isSignOf_71 (by decide) ?_
    obtain ⟨r_13, h_r_13, hF⟩ := ob1E hF
    refine r_callVI (As := [.int (43 : Int32)]) (rest := []) K hw hl.1 (c_Reader_is (l := l) (D := D) (cA := cA) (ad := ad) (s0 := s0) (Nat.le_trans (Nat.le_of_ble_eq_true rfl) hn)  h_r_13) (sh_Reader (Nat.le_trans (Nat.le_of_ble_eq_true rfl) hn)) rfl (tb_gV w_441 w_443 w_6 w_73 w_444) a_Reader_is ⟨rfl, rfl, Nat.le_of_ble_eq_true rfl, Nat.le_of_ble_eq_true rfl⟩ rfl rfl (Nat.le_of_ble_eq_true rfl) d_Reader_isSignOf_73 (fun H locs hw => ?_)
    refine lv_if_ne (tgt := 88) hx hb d_Reader_isSignOf_76 (by decide) (fun c_14 => ?_) (fun c_14 => ?_)
    · replace hF := ifT hF c_14
      refine lv_iconst (v := 1) hx hb d_Reader_isSignOf_88 (by decide) ?_
      refine lv_goto (tgt := 93) hx hb d_Reader_isSignOf_89 (by decide) ?_
      replace hF := sE1 hF
      subst hF
      exact r_zret K hw (by decide) d_Reader_isSignOf_93
    · replace hF := ifN hF c_14
      refine lv_aload_n hx hb d_Reader_isSignOf_79 rfl (lv_at hl 0 rfl) ?_
      refine lv_bipush (v := 45) hx hb d_Reader_isSignOf_80 (by decide) ?_
      obtain ⟨r_15, h_r_15, hF⟩ := ob1E hF
      refine r_callVI (As := [.int (45 : Int32)]) (rest := []) K hw hl.1 (c_Reader_is (l := l) (D := D) (cA := cA) (ad := ad) (s0 := s0) (Nat.le_trans (Nat.le_of_ble_eq_true rfl) hn)  h_r_15) (sh_Reader (Nat.le_trans (Nat.le_of_ble_eq_true rfl) hn)) rfl (tb_gV w_441 w_443 w_6 w_73 w_444) a_Reader_is ⟨rfl, rfl, Nat.le_of_ble_eq_true rfl, Nat.le_of_ble_eq_true rfl⟩ rfl rfl (Nat.le_of_ble_eq_true rfl) d_Reader_isSignOf_82 (fun H locs hw => ?_)
      refine lv_if_eq (tgt := 92) hx hb d_Reader_isSignOf_85 (by decide) (fun c_16 => ?_) (fun c_16 => ?_)
      · replace hF := ifT hF c_16
        refine lv_iconst (v := 0) hx hb d_Reader_isSignOf_92 (by decide) ?_
        replace hF := sE1 hF
        subst hF
        exact r_zret K hw (by decide) d_Reader_isSignOf_93
      · replace hF := ifF hF c_16
        refine lv_iconst (v := 1) hx hb d_Reader_isSignOf_88 (by decide) ?_
        refine lv_goto (tgt := 93) hx hb d_Reader_isSignOf_89 (by decide) ?_
        replace hF := sE1 hF
        subst hF
        exact r_zret K hw (by decide) d_Reader_isSignOf_93
  replace hF := ifF hF c_12
  have nc_1 : ¬ (v1).toInt = 0 := lv_neT c_1 rfl
  have nc_4 : ¬ (v1).toInt = 1 := lv_neT c_4 rfl
  have nc_7 : ¬ (v1).toInt = 2 := lv_neT c_7 rfl
  have nc_12 : ¬ (v1).toInt = 3 := lv_neT c_12 rfl
  refine lv_tableOut (tgt := 94) hx hb d_Reader_isSignOf_1 (by omega) (by decide) ?_
  refine lv_aload_n hx hb d_Reader_isSignOf_94 rfl (lv_at hl 0 rfl) ?_
  refine lv_bipush (v := 42) hx hb d_Reader_isSignOf_95 (by decide) ?_
  obtain ⟨r_17, h_r_17, hF⟩ := ob1E hF
  refine r_callVI (As := [.int (42 : Int32)]) (rest := []) K hw hl.1 (c_Reader_is (l := l) (D := D) (cA := cA) (ad := ad) (s0 := s0) (Nat.le_trans (Nat.le_of_ble_eq_true rfl) hn)  h_r_17) (sh_Reader (Nat.le_trans (Nat.le_of_ble_eq_true rfl) hn)) rfl (tb_gV w_441 w_443 w_6 w_73 w_444) a_Reader_is ⟨rfl, rfl, Nat.le_of_ble_eq_true rfl, Nat.le_of_ble_eq_true rfl⟩ rfl rfl (Nat.le_of_ble_eq_true rfl) d_Reader_isSignOf_97 (fun H locs hw => ?_)
  obtain ⟨g_18, hF⟩ := ifG hF
  replace hF := sE1 hF
  subst hF
  exact r_zret K hw (zN g_18) d_Reader_isSignOf_100
end S_Reader_isSignOf
noncomputable abbrev F_Reader_isSignOf := F_Reader_isSignOf_0
theorem c_Reader_isSignOf {l : Launch} {D : va_G} {cA : Nat → ClassId} {ad : Nat → Nat} {s0 : St} {nC : Nat} (hn : 5 ≤ nC) {r : Int32} {v1 : Int32}  (hF : F_Reader_isSignOf s0 v1 = (some r)) : MI l D cA ad (shC.take nC) y_Reader_isSignOf (wT y_Reader_isSignOf b_Reader_isSignOf 2 (some .boolean)) rm_Reader_isSignOf [.ref (ad 2), .int v1] s0 r s0 := fun sz => m_start (Qc := fun A => QcI D cA ad (shC.take nC) A r s0) (by decide +kernel) w_484 (Nat.le_of_ble_eq_true rfl) (fun p e s m below meth c ls K hl hw => q_Reader_isSignOf_0 hn s0 K _ _ _ _  hw hl hF)

/-! Reader.stepOf(I)I -/
abbrev b_Reader_stepOf : ByteArray := prog_5_method_11_code
def y_Reader_stepOf : MethodName := ⟨R_Reader, "stepOf", "(I)I"⟩
theorem a_Reader_stepOf : y_Reader_stepOf.cls = R_Reader ∧ y_Reader_stepOf.cls ≠ "java/lang/invoke/MethodHandle" ∧ y_Reader_stepOf.cls ≠ "java/lang/invoke/VarHandle" ∧ (parseMethodDescriptor y_Reader_stepOf.desc).map (fun d => d.parameters.length) = some 1 := by decide +kernel
abbrev rm_Reader_stepOf : Room := { frames := 0, cells := 0, slots := 0, locals := 0 }
theorem w_487 : Cond.code y_Reader_stepOf b_Reader_stepOf 1 (some .int) ∈ TB := tb_in 487 (by decide +kernel) (by decide +kernel)
theorem d_Reader_stepOf_0 : decode b_Reader_stepOf 0 = .ok (.iload_n 0, 1) := by decide +kernel
theorem d_Reader_stepOf_1 : decode b_Reader_stepOf 1 = .ok (.lookupswitch 77 #[(13, 59), (14, 62), (43, 71), (45, 74), (60, 65), (61, 68)], 59) := by decide +kernel
theorem d_Reader_stepOf_60 : decode b_Reader_stepOf 60 = .ok (.bipush (-27), 2) := by decide +kernel
theorem d_Reader_stepOf_62 : decode b_Reader_stepOf 62 = .ok (.ireturn, 1) := by decide +kernel
theorem d_Reader_stepOf_63 : decode b_Reader_stepOf 63 = .ok (.bipush (-26), 2) := by decide +kernel
theorem d_Reader_stepOf_65 : decode b_Reader_stepOf 65 = .ok (.ireturn, 1) := by decide +kernel
theorem d_Reader_stepOf_66 : decode b_Reader_stepOf 66 = .ok (.bipush (-24), 2) := by decide +kernel
theorem d_Reader_stepOf_68 : decode b_Reader_stepOf 68 = .ok (.ireturn, 1) := by decide +kernel
theorem d_Reader_stepOf_69 : decode b_Reader_stepOf 69 = .ok (.bipush (-25), 2) := by decide +kernel
theorem d_Reader_stepOf_71 : decode b_Reader_stepOf 71 = .ok (.ireturn, 1) := by decide +kernel
theorem d_Reader_stepOf_72 : decode b_Reader_stepOf 72 = .ok (.bipush (-21), 2) := by decide +kernel
theorem d_Reader_stepOf_74 : decode b_Reader_stepOf 74 = .ok (.ireturn, 1) := by decide +kernel
theorem d_Reader_stepOf_75 : decode b_Reader_stepOf 75 = .ok (.bipush (-22), 2) := by decide +kernel
theorem d_Reader_stepOf_77 : decode b_Reader_stepOf 77 = .ok (.ireturn, 1) := by decide +kernel
theorem d_Reader_stepOf_78 : decode b_Reader_stepOf 78 = .ok (.bipush (-23), 2) := by decide +kernel
theorem d_Reader_stepOf_80 : decode b_Reader_stepOf 80 = .ok (.ireturn, 1) := by decide +kernel
section S_Reader_stepOf
variable {p : Program} {l : Launch} {e : Env} {s : State} {m : MethodId} {args : Array Value} {below : List Frame} {meth : Method} {c : Code} {D : va_G} {cA : Nat → ClassId} {ad : Nat → Nat} {nC : Nat} {A : Nat → Prop} {r : Int32} {τ : St}
noncomputable def F_Reader_stepOf_0 (v0 : Int32) : Int32 := (if v0 = 13 then (-27 : Int32) else (if v0 = 14 then (-26 : Int32) else (if v0 = 43 then (-21 : Int32) else (if v0 = 45 then (-22 : Int32) else (if v0 = 60 then (-24 : Int32) else (if v0 = 61 then (-25 : Int32) else (-23 : Int32)))))))
set_option maxHeartbeats 4000000 in
set_option maxRecDepth 100000 in
theorem q_Reader_stepOf_0 (hn : 0 ≤ nC) (s0 : St) (K : Fx p s m args meth c b_Reader_stepOf 1 R_Reader (some .int))  : ∀ (H : Heap) (locs : List Loc) (ls : Array Slot) (v0 : Int32), Wh D cA ad (shC.take nC) A s s0 H locs → lv_has ls 1 [(0, .int v0)] → F_Reader_stepOf_0 v0 = r → W p l e rm_Reader_stepOf s m args below meth c H locs 0 0 (MQ below (QcI D cA ad (shC.take nC) A r s0) args s 0 0 A) (F0 m 0 ls []) := by
  have hx := K.1.1; have hb := K.1.2.1
  intro H locs ls v0 hw hl hF
  unfold F_Reader_stepOf_0 at hF
  refine lv_iload_n hx hb d_Reader_stepOf_0 rfl (lv_at hl 0 rfl) ?_
  by_cases c_1 : v0 = 13
  · replace hF := ifT hF c_1
    refine lv_lookup (tgt := 60) hx hb d_Reader_stepOf_1 (by decide) (by rw [c_1] <;> rfl) (by decide) ?_
    refine lv_bipush (v := -27) hx hb d_Reader_stepOf_60 (by decide) ?_
    subst hF
    exact r_iret K hw d_Reader_stepOf_62
  replace hF := ifF hF c_1
  by_cases c_2 : v0 = 14
  · replace hF := ifT hF c_2
    refine lv_lookup (tgt := 63) hx hb d_Reader_stepOf_1 (by decide) (by rw [c_2] <;> rfl) (by decide) ?_
    refine lv_bipush (v := -26) hx hb d_Reader_stepOf_63 (by decide) ?_
    subst hF
    exact r_iret K hw d_Reader_stepOf_65
  replace hF := ifF hF c_2
  by_cases c_3 : v0 = 43
  · replace hF := ifT hF c_3
    refine lv_lookup (tgt := 72) hx hb d_Reader_stepOf_1 (by decide) (by rw [c_3] <;> rfl) (by decide) ?_
    refine lv_bipush (v := -21) hx hb d_Reader_stepOf_72 (by decide) ?_
    subst hF
    exact r_iret K hw d_Reader_stepOf_74
  replace hF := ifF hF c_3
  by_cases c_4 : v0 = 45
  · replace hF := ifT hF c_4
    refine lv_lookup (tgt := 75) hx hb d_Reader_stepOf_1 (by decide) (by rw [c_4] <;> rfl) (by decide) ?_
    refine lv_bipush (v := -22) hx hb d_Reader_stepOf_75 (by decide) ?_
    subst hF
    exact r_iret K hw d_Reader_stepOf_77
  replace hF := ifF hF c_4
  by_cases c_5 : v0 = 60
  · replace hF := ifT hF c_5
    refine lv_lookup (tgt := 66) hx hb d_Reader_stepOf_1 (by decide) (by rw [c_5] <;> rfl) (by decide) ?_
    refine lv_bipush (v := -24) hx hb d_Reader_stepOf_66 (by decide) ?_
    subst hF
    exact r_iret K hw d_Reader_stepOf_68
  replace hF := ifF hF c_5
  by_cases c_6 : v0 = 61
  · replace hF := ifT hF c_6
    refine lv_lookup (tgt := 69) hx hb d_Reader_stepOf_1 (by decide) (by rw [c_6] <;> rfl) (by decide) ?_
    refine lv_bipush (v := -25) hx hb d_Reader_stepOf_69 (by decide) ?_
    subst hF
    exact r_iret K hw d_Reader_stepOf_71
  replace hF := ifF hF c_6
  have nc_1 : ¬ (v0).toInt = 13 := lv_neT c_1 rfl
  have nc_2 : ¬ (v0).toInt = 14 := lv_neT c_2 rfl
  have nc_3 : ¬ (v0).toInt = 43 := lv_neT c_3 rfl
  have nc_4 : ¬ (v0).toInt = 45 := lv_neT c_4 rfl
  have nc_5 : ¬ (v0).toInt = 60 := lv_neT c_5 rfl
  have nc_6 : ¬ (v0).toInt = 61 := lv_neT c_6 rfl
  refine lv_lookup (off := 77) (tgt := 78) hx hb d_Reader_stepOf_1 (by decide) (by exact (lv_osw c_1 rfl).trans ((lv_osw c_2 rfl).trans ((lv_osw c_3 rfl).trans ((lv_osw c_4 rfl).trans ((lv_osw c_5 rfl).trans ((lv_osw c_6 rfl).trans (rfl))))))) (by decide) ?_
  refine lv_bipush (v := -23) hx hb d_Reader_stepOf_78 (by decide) ?_
  subst hF
  exact r_iret K hw d_Reader_stepOf_80
end S_Reader_stepOf
noncomputable abbrev F_Reader_stepOf := F_Reader_stepOf_0
theorem c_Reader_stepOf {l : Launch} {D : va_G} {cA : Nat → ClassId} {ad : Nat → Nat} {s0 : St} {nC : Nat} (hn : 0 ≤ nC) {r : Int32} {v0 : Int32}  (hF : F_Reader_stepOf v0 = r) : MI l D cA ad (shC.take nC) y_Reader_stepOf (wT y_Reader_stepOf b_Reader_stepOf 1 (some .int)) rm_Reader_stepOf [.int v0] s0 r s0 := fun sz => m_start (Qc := fun A => QcI D cA ad (shC.take nC) A r s0) (by decide +kernel) w_487 (Nat.le_of_ble_eq_true rfl) (fun p e s m below meth c ls K hl hw => q_Reader_stepOf_0 hn s0 K _ _ _ _  hw hl hF)

/-! Text.add(I)V -/
abbrev b_Text_add : ByteArray := prog_10_method_3_code
def y_Text_add : MethodName := ⟨R_Text, "add", "(I)V"⟩
theorem a_Text_add : y_Text_add.cls = R_Text ∧ y_Text_add.cls ≠ "java/lang/invoke/MethodHandle" ∧ y_Text_add.cls ≠ "java/lang/invoke/VarHandle" ∧ (parseMethodDescriptor y_Text_add.desc).map (fun d => d.parameters.length) = some 1 := by decide +kernel
abbrev rm_Text_add : Room := { frames := 0, cells := 0, slots := 0, locals := 0 }
theorem w_209 : Cond.fieldLink R_Text 18 R_Text "used" "I" ∈ TB := tb_in 209 (by decide +kernel) (by decide +kernel)
theorem w_208 : Cond.fieldLink R_Text 9 R_Text "steps" "[I" ∈ TB := tb_in 208 (by decide +kernel) (by decide +kernel)
theorem w_472 : Cond.code y_Text_add b_Text_add 2 none ∈ TB := tb_in 472 (by decide +kernel) (by decide +kernel)
theorem d_Text_add_0 : decode b_Text_add 0 = .ok (.aload_n 0, 1) := by decide +kernel
theorem d_Text_add_1 : decode b_Text_add 1 = .ok (.getfield 18, 3) := by decide +kernel
theorem d_Text_add_4 : decode b_Text_add 4 = .ok (.aload_n 0, 1) := by decide +kernel
theorem d_Text_add_5 : decode b_Text_add 5 = .ok (.getfield 9, 3) := by decide +kernel
theorem d_Text_add_8 : decode b_Text_add 8 = .ok (.arraylength, 1) := by decide +kernel
theorem d_Text_add_9 : decode b_Text_add 9 = .ok (.if_icmp .lt 4, 3) := by decide +kernel
theorem d_Text_add_12 : decode b_Text_add 12 = .ok (.return_, 1) := by decide +kernel
theorem d_Text_add_13 : decode b_Text_add 13 = .ok (.aload_n 0, 1) := by decide +kernel
theorem d_Text_add_14 : decode b_Text_add 14 = .ok (.getfield 9, 3) := by decide +kernel
theorem d_Text_add_17 : decode b_Text_add 17 = .ok (.aload_n 0, 1) := by decide +kernel
theorem d_Text_add_18 : decode b_Text_add 18 = .ok (.getfield 18, 3) := by decide +kernel
theorem d_Text_add_21 : decode b_Text_add 21 = .ok (.iload_n 1, 1) := by decide +kernel
theorem d_Text_add_22 : decode b_Text_add 22 = .ok (.iastore, 1) := by decide +kernel
theorem d_Text_add_23 : decode b_Text_add 23 = .ok (.aload_n 0, 1) := by decide +kernel
theorem d_Text_add_24 : decode b_Text_add 24 = .ok (.dup, 1) := by decide +kernel
theorem d_Text_add_25 : decode b_Text_add 25 = .ok (.getfield 18, 3) := by decide +kernel
theorem d_Text_add_28 : decode b_Text_add 28 = .ok (.iconst 1, 1) := by decide +kernel
theorem d_Text_add_29 : decode b_Text_add 29 = .ok (.iadd, 1) := by decide +kernel
theorem d_Text_add_30 : decode b_Text_add 30 = .ok (.putfield 18, 3) := by decide +kernel
theorem d_Text_add_33 : decode b_Text_add 33 = .ok (.return_, 1) := by decide +kernel
section S_Text_add
variable {p : Program} {l : Launch} {e : Env} {s : State} {m : MethodId} {args : Array Value} {below : List Frame} {meth : Method} {c : Code} {D : va_G} {cA : Nat → ClassId} {ad : Nat → Nat} {nC : Nat} {A : Nat → Prop} {τ : St}
noncomputable def F_Text_add_0 (s0 : St) (v0 : Nat) (v1 : Int32) : Option St := (if (s0.1 v0 2) < (160 : Int32) then (if inB (s0.1 v0 2) 160 = true then (lt (up1 s0 (v0 + 6) (s0.1 v0 2).toNatClampNeg v1) (fun s_3 => (lt (up1 s_3 v0 2 ((s_3.1 v0 2) + (1 : Int32))) (fun s_4 => (some s_4))))) else none) else (some s0))
set_option maxHeartbeats 4000000 in
set_option maxRecDepth 100000 in
theorem q_Text_add_0 (hn : 20 ≤ nC) (K : Fx p s m args meth c b_Text_add 2 R_Text none)  : ∀ (H : Heap) (locs : List Loc) (ls : Array Slot) (s0 : St) (v0 : Nat) (v1 : Int32) (g_v0 : P_Text v0), Wh D cA ad (shC.take nC) A s s0 H locs → lv_has ls 2 [(0, .ref (ad v0)), (1, .int v1)] → F_Text_add_0 s0 v0 v1 = (some τ) → W p l e rm_Text_add s m args below meth c H locs 0 0 (MQ below (QcV D cA ad (shC.take nC) A τ) args s 0 0 A) (F0 m 0 ls []) := by
  have hx := K.1.1; have hb := K.1.2.1
  intro H locs ls s0 v0 v1 g_v0 hw hl hF
  unfold F_Text_add_0 at hF
  refine lv_aload_n hx hb d_Text_add_0 rfl (lv_at hl 0 rfl) ?_
  refine r_get (v := .int (s0.1 v0 2)) K hw i_Text (sh_Text g_v0 (Nat.le_trans (Nat.le_of_ble_eq_true rfl) hn)) rfl 2 (by decide) w_209 rfl rfl rfl d_Text_add_1 ?_
  refine lv_aload_n hx hb d_Text_add_4 rfl (lv_at hl 0 rfl) ?_
  refine r_get (v := .ref (ad (v0 + 6))) K hw i_Text (sh_Text g_v0 (Nat.le_trans (Nat.le_of_ble_eq_true rfl) hn)) rfl 1 (by decide) w_208 rfl rfl rfl d_Text_add_5 ?_
  refine r_alen (v := 160) K hw (sh_stepsOf g_v0 (Nat.le_trans (Nat.le_of_ble_eq_true rfl) hn)) (by decide) d_Text_add_8 ?_
  refine lv_icmp_lt (tgt := 13) hx hb d_Text_add_9 (by decide) (fun c_1 => ?_) (fun c_1 => ?_)
  · replace hF := ifT hF c_1
    refine lv_aload_n hx hb d_Text_add_13 rfl (lv_at hl 0 rfl) ?_
    refine r_get (v := .ref (ad (v0 + 6))) K hw i_Text (sh_Text g_v0 (Nat.le_trans (Nat.le_of_ble_eq_true rfl) hn)) rfl 1 (by decide) w_208 rfl rfl rfl d_Text_add_14 ?_
    refine lv_aload_n hx hb d_Text_add_17 rfl (lv_at hl 0 rfl) ?_
    refine r_get (v := .int (s0.1 v0 2)) K hw i_Text (sh_Text g_v0 (Nat.le_trans (Nat.le_of_ble_eq_true rfl) hn)) rfl 2 (by decide) w_209 rfl rfl rfl d_Text_add_18 ?_
    refine lv_iload_n hx hb d_Text_add_21 rfl (lv_at hl 1 rfl) ?_
    obtain ⟨g_2, hF⟩ := ifG hF
    refine r_iast (k := (s0.1 v0 2).toNatClampNeg) K hw (sh_stepsOf g_v0 (Nat.le_trans (Nat.le_of_ble_eq_true rfl) hn)) rfl (inB_vp g_2) d_Text_add_22 (fun s_3 f_s_3 H locs hw => ?_)
    replace hF := ltN hF f_s_3
    refine lv_aload_n hx hb d_Text_add_23 rfl (lv_at hl 0 rfl) ?_
    refine lv_dup hx hb d_Text_add_24 rfl ?_
    refine r_get (v := .int (s_3.1 v0 2)) K hw i_Text (sh_Text g_v0 (Nat.le_trans (Nat.le_of_ble_eq_true rfl) hn)) rfl 2 (by decide) w_209 rfl rfl rfl d_Text_add_25 ?_
    refine lv_iconst (v := 1) hx hb d_Text_add_28 (by decide) ?_
    refine lv_iadd hx hb d_Text_add_29 ?_
    refine r_putI K hw i_Text t_Text t_Text_ok n_Text (sh_Text g_v0 (Nat.le_trans (Nat.le_of_ble_eq_true rfl) hn)) rfl 2 (by decide) w_209 rfl rfl rfl rfl rfl d_Text_add_30 (fun s_4 f_s_4 H locs hw => ?_)
    replace hF := ltN hF f_s_4
    replace hF := sE1 hF
    subst hF
    exact r_vret K hw d_Text_add_33
  · replace hF := ifF hF c_1
    replace hF := sE1 hF
    subst hF
    exact r_vret K hw d_Text_add_12
end S_Text_add
noncomputable abbrev F_Text_add := F_Text_add_0
theorem c_Text_add {l : Launch} {D : va_G} {cA : Nat → ClassId} {ad : Nat → Nat} {s0 τ : St} {nC : Nat} (hn : 20 ≤ nC) {v0 : Nat} {v1 : Int32} (g_v0 : P_Text v0) (hF : F_Text_add s0 v0 v1 = (some τ)) : MV l D cA ad (shC.take nC) y_Text_add (wT y_Text_add b_Text_add 2 none) rm_Text_add [.ref (ad v0), .int v1] s0 τ := fun sz => m_start (Qc := fun A => QcV D cA ad (shC.take nC) A τ) (by decide +kernel) w_472 (Nat.le_of_ble_eq_true rfl) (fun p e s m below meth c ls K hl hw => q_Text_add_0 hn K _ _ _ _ _ _ g_v0 hw hl hF)

/-! Reader.opens(I)Z -/
abbrev b_Reader_opens : ByteArray := prog_5_method_9_code
def y_Reader_opens : MethodName := ⟨R_Reader, "opens", "(I)Z"⟩
theorem a_Reader_opens : y_Reader_opens.cls = R_Reader ∧ y_Reader_opens.cls ≠ "java/lang/invoke/MethodHandle" ∧ y_Reader_opens.cls ≠ "java/lang/invoke/VarHandle" ∧ (parseMethodDescriptor y_Reader_opens.desc).map (fun d => d.parameters.length) = some 1 := by decide +kernel
abbrev rm_Reader_opens : Room := { frames := 2, cells := 0, slots := 0, locals := 41 }
theorem w_476 : Cond.code y_Reader_opens b_Reader_opens 2 (some .boolean) ∈ TB := tb_in 476 (by decide +kernel) (by decide +kernel)
theorem d_Reader_opens_0 : decode b_Reader_opens 0 = .ok (.iload_n 1, 1) := by decide +kernel
theorem d_Reader_opens_1 : decode b_Reader_opens 1 = .ok (.iconst 5, 1) := by decide +kernel
theorem d_Reader_opens_2 : decode b_Reader_opens 2 = .ok (.if_icmp .lt 10, 3) := by decide +kernel
theorem d_Reader_opens_5 : decode b_Reader_opens 5 = .ok (.aload_n 0, 1) := by decide +kernel
theorem d_Reader_opens_6 : decode b_Reader_opens 6 = .ok (.invokevirtual 61, 3) := by decide +kernel
theorem d_Reader_opens_9 : decode b_Reader_opens 9 = .ok (.goto 13, 3) := by decide +kernel
theorem d_Reader_opens_12 : decode b_Reader_opens 12 = .ok (.aload_n 0, 1) := by decide +kernel
theorem d_Reader_opens_13 : decode b_Reader_opens 13 = .ok (.dup, 1) := by decide +kernel
theorem d_Reader_opens_14 : decode b_Reader_opens 14 = .ok (.getfield 29, 3) := by decide +kernel
theorem d_Reader_opens_17 : decode b_Reader_opens 17 = .ok (.iconst 1, 1) := by decide +kernel
theorem d_Reader_opens_18 : decode b_Reader_opens 18 = .ok (.iadd, 1) := by decide +kernel
theorem d_Reader_opens_19 : decode b_Reader_opens 19 = .ok (.putfield 29, 3) := by decide +kernel
theorem d_Reader_opens_22 : decode b_Reader_opens 22 = .ok (.iload_n 1, 1) := by decide +kernel
theorem d_Reader_opens_23 : decode b_Reader_opens 23 = .ok (.iconst 5, 1) := by decide +kernel
theorem d_Reader_opens_24 : decode b_Reader_opens 24 = .ok (.if_icmp .ge 7, 3) := by decide +kernel
theorem d_Reader_opens_27 : decode b_Reader_opens 27 = .ok (.iconst 1, 1) := by decide +kernel
theorem d_Reader_opens_28 : decode b_Reader_opens 28 = .ok (.goto 4, 3) := by decide +kernel
theorem d_Reader_opens_31 : decode b_Reader_opens 31 = .ok (.iconst 0, 1) := by decide +kernel
theorem d_Reader_opens_32 : decode b_Reader_opens 32 = .ok (.ireturn, 1) := by decide +kernel
section S_Reader_opens
variable {p : Program} {l : Launch} {e : Env} {s : State} {m : MethodId} {args : Array Value} {below : List Frame} {meth : Method} {c : Code} {D : va_G} {cA : Nat → ClassId} {ad : Nat → Nat} {nC : Nat} {A : Nat → Prop} {r : Int32} {τ : St}
noncomputable def F_Reader_opens_22 (s0 : St) (v1 : Int32) : Option (Int32 × St) := (if (5 : Int32) ≤ v1 then (some ((0 : Int32), s0)) else (some ((1 : Int32), s0)))
set_option maxHeartbeats 4000000 in
set_option maxRecDepth 100000 in
theorem q_Reader_opens_22 (hn : 7 ≤ nC) (K : Fx p s m args meth c b_Reader_opens 2 R_Reader (some .boolean))  : ∀ (H : Heap) (locs : List Loc) (ls : Array Slot) (s0 : St) (v1 : Int32), Wh D cA ad (shC.take nC) A s s0 H locs → lv_has ls 2 [(1, .int v1)] → F_Reader_opens_22 s0 v1 = (some (r, τ)) → W p l e rm_Reader_opens s m args below meth c H locs 0 0 (MQ below (QcI D cA ad (shC.take nC) A r τ) args s 0 0 A) (F0 m 22 ls []) := by
  have hx := K.1.1; have hb := K.1.2.1
  intro H locs ls s0 v1 hw hl hF
  unfold F_Reader_opens_22 at hF
  refine lv_iload_n hx hb d_Reader_opens_22 rfl (lv_at hl 0 rfl) ?_
  refine lv_iconst (v := 5) hx hb d_Reader_opens_23 (by decide) ?_
  refine lv_icmp_ge (tgt := 31) hx hb d_Reader_opens_24 (by decide) (fun c_3 => ?_) (fun c_3 => ?_)
  · replace hF := ifT hF c_3
    refine lv_iconst (v := 0) hx hb d_Reader_opens_31 (by decide) ?_
    obtain ⟨hF, hG⟩ := sE2 hF
    subst hF
    subst hG
    exact r_zret K hw (by decide) d_Reader_opens_32
  · replace hF := ifF hF c_3
    refine lv_iconst (v := 1) hx hb d_Reader_opens_27 (by decide) ?_
    refine lv_goto (tgt := 32) hx hb d_Reader_opens_28 (by decide) ?_
    obtain ⟨hF, hG⟩ := sE2 hF
    subst hF
    subst hG
    exact r_zret K hw (by decide) d_Reader_opens_32
noncomputable def F_Reader_opens_0 (s0 : St) (v1 : Int32) : Option (Int32 × St) := (if v1 < (5 : Int32) then (lt (up1 s0 2 2 ((s0.1 2 2) + (1 : Int32))) (fun s_2 => (F_Reader_opens_22 s_2 v1))) else (ob1 (F_Reader_fail s0 ) (fun s_4 => (F_Reader_opens_22 s_4 v1))))
set_option maxHeartbeats 4000000 in
set_option maxRecDepth 100000 in
theorem q_Reader_opens_0 (hn : 7 ≤ nC) (K : Fx p s m args meth c b_Reader_opens 2 R_Reader (some .boolean))  : ∀ (H : Heap) (locs : List Loc) (ls : Array Slot) (s0 : St) (v1 : Int32), Wh D cA ad (shC.take nC) A s s0 H locs → lv_has ls 2 [(0, .ref (ad 2)), (1, .int v1)] → F_Reader_opens_0 s0 v1 = (some (r, τ)) → W p l e rm_Reader_opens s m args below meth c H locs 0 0 (MQ below (QcI D cA ad (shC.take nC) A r τ) args s 0 0 A) (F0 m 0 ls []) := by
  have hx := K.1.1; have hb := K.1.2.1
  intro H locs ls s0 v1 hw hl hF
  unfold F_Reader_opens_0 at hF
  refine lv_iload_n hx hb d_Reader_opens_0 rfl (lv_at hl 1 rfl) ?_
  refine lv_iconst (v := 5) hx hb d_Reader_opens_1 (by decide) ?_
  refine lv_icmp_lt (tgt := 12) hx hb d_Reader_opens_2 (by decide) (fun c_1 => ?_) (fun c_1 => ?_)
  · replace hF := ifT hF c_1
    refine lv_aload_n hx hb d_Reader_opens_12 rfl (lv_at hl 0 rfl) ?_
    refine lv_dup hx hb d_Reader_opens_13 rfl ?_
    refine r_get (v := .int (s0.1 2 2)) K hw i_Reader (sh_Reader (Nat.le_trans (Nat.le_of_ble_eq_true rfl) hn)) rfl 2 (by decide) w_311 rfl rfl rfl d_Reader_opens_14 ?_
    refine lv_iconst (v := 1) hx hb d_Reader_opens_17 (by decide) ?_
    refine lv_iadd hx hb d_Reader_opens_18 ?_
    refine r_putI K hw i_Reader t_Reader t_Reader_ok n_Reader (sh_Reader (Nat.le_trans (Nat.le_of_ble_eq_true rfl) hn)) rfl 2 (by decide) w_311 rfl rfl rfl rfl rfl d_Reader_opens_19 (fun s_2 f_s_2 H locs hw => ?_)
    replace hF := ltN hF f_s_2
    exact q_Reader_opens_22 hn K _ _ _ _ _  hw (lv_sub hl [1] rfl) hF
  · replace hF := ifF hF c_1
    refine lv_aload_n hx hb d_Reader_opens_5 rfl (lv_at hl 0 rfl) ?_
    obtain ⟨s_4, h_s_4, hF⟩ := ob1E hF
    refine r_callVV (As := []) (rest := []) K hw hl.1 (c_Reader_fail (l := l) (D := D) (cA := cA) (ad := ad) (s0 := s0) (Nat.le_trans (Nat.le_of_ble_eq_true rfl) hn)  h_s_4) (sh_Reader (Nat.le_trans (Nat.le_of_ble_eq_true rfl) hn)) rfl (tb_gV w_449 w_451 w_7 w_73 w_452) a_Reader_fail ⟨rfl, rfl, Nat.le_of_ble_eq_true rfl, Nat.le_of_ble_eq_true rfl⟩ rfl rfl (Nat.le_of_ble_eq_true rfl) d_Reader_opens_6 (fun H locs hw => ?_)
    refine lv_goto (tgt := 22) hx hb d_Reader_opens_9 (by decide) ?_
    exact q_Reader_opens_22 hn K _ _ _ _ _  hw (lv_sub hl [1] rfl) hF
end S_Reader_opens
noncomputable abbrev F_Reader_opens := F_Reader_opens_0
theorem c_Reader_opens {l : Launch} {D : va_G} {cA : Nat → ClassId} {ad : Nat → Nat} {s0 τ : St} {nC : Nat} (hn : 7 ≤ nC) {r : Int32} {v1 : Int32}  (hF : F_Reader_opens s0 v1 = (some (r, τ))) : MI l D cA ad (shC.take nC) y_Reader_opens (wT y_Reader_opens b_Reader_opens 2 (some .boolean)) rm_Reader_opens [.ref (ad 2), .int v1] s0 r τ := fun sz => m_start (Qc := fun A => QcI D cA ad (shC.take nC) A r τ) (by decide +kernel) w_476 (Nat.le_of_ble_eq_true rfl) (fun p e s m below meth c ls K hl hw => q_Reader_opens_0 hn K _ _ _ _ _  hw hl hF)

/-! Tokens.value(I)I -/
abbrev b_Tokens_value : ByteArray := prog_11_method_4_code
def y_Tokens_value : MethodName := ⟨R_Tokens, "value", "(I)I"⟩
theorem a_Tokens_value : y_Tokens_value.cls = R_Tokens ∧ y_Tokens_value.cls ≠ "java/lang/invoke/MethodHandle" ∧ y_Tokens_value.cls ≠ "java/lang/invoke/VarHandle" ∧ (parseMethodDescriptor y_Tokens_value.desc).map (fun d => d.parameters.length) = some 1 := by decide +kernel
abbrev rm_Tokens_value : Room := { frames := 0, cells := 0, slots := 0, locals := 0 }
theorem w_290 : Cond.fieldLink R_Tokens 15 R_Tokens "values" "[I" ∈ TB := tb_in 290 (by decide +kernel) (by decide +kernel)
theorem w_468 : Cond.code y_Tokens_value b_Tokens_value 2 (some .int) ∈ TB := tb_in 468 (by decide +kernel) (by decide +kernel)
theorem d_Tokens_value_0 : decode b_Tokens_value 0 = .ok (.iload_n 1, 1) := by decide +kernel
theorem d_Tokens_value_1 : decode b_Tokens_value 1 = .ok (.ifCond .lt 20, 3) := by decide +kernel
theorem d_Tokens_value_4 : decode b_Tokens_value 4 = .ok (.iload_n 1, 1) := by decide +kernel
theorem d_Tokens_value_5 : decode b_Tokens_value 5 = .ok (.aload_n 0, 1) := by decide +kernel
theorem d_Tokens_value_6 : decode b_Tokens_value 6 = .ok (.getfield 25, 3) := by decide +kernel
theorem d_Tokens_value_9 : decode b_Tokens_value 9 = .ok (.if_icmp .ge 12, 3) := by decide +kernel
theorem d_Tokens_value_12 : decode b_Tokens_value 12 = .ok (.aload_n 0, 1) := by decide +kernel
theorem d_Tokens_value_13 : decode b_Tokens_value 13 = .ok (.getfield 15, 3) := by decide +kernel
theorem d_Tokens_value_16 : decode b_Tokens_value 16 = .ok (.iload_n 1, 1) := by decide +kernel
theorem d_Tokens_value_17 : decode b_Tokens_value 17 = .ok (.iaload, 1) := by decide +kernel
theorem d_Tokens_value_18 : decode b_Tokens_value 18 = .ok (.goto 4, 3) := by decide +kernel
theorem d_Tokens_value_21 : decode b_Tokens_value 21 = .ok (.iconst 0, 1) := by decide +kernel
theorem d_Tokens_value_22 : decode b_Tokens_value 22 = .ok (.ireturn, 1) := by decide +kernel
section S_Tokens_value
variable {p : Program} {l : Launch} {e : Env} {s : State} {m : MethodId} {args : Array Value} {below : List Frame} {meth : Method} {c : Code} {D : va_G} {cA : Nat → ClassId} {ad : Nat → Nat} {nC : Nat} {A : Nat → Prop} {r : Int32} {τ : St}
noncomputable def F_Tokens_value_0 (s0 : St) (v1 : Int32) : Option Int32 := (if v1 < 0 then (some (0 : Int32)) else (if (s0.1 3 4) ≤ v1 then (some (0 : Int32)) else (if inB v1 161 = true then (some (s0.1 5 v1.toNatClampNeg)) else none)))
set_option maxHeartbeats 4000000 in
set_option maxRecDepth 100000 in
theorem q_Tokens_value_0 (hn : 6 ≤ nC) (s0 : St) (K : Fx p s m args meth c b_Tokens_value 2 R_Tokens (some .int))  : ∀ (H : Heap) (locs : List Loc) (ls : Array Slot) (v1 : Int32), Wh D cA ad (shC.take nC) A s s0 H locs → lv_has ls 2 [(0, .ref (ad 3)), (1, .int v1)] → F_Tokens_value_0 s0 v1 = (some r) → W p l e rm_Tokens_value s m args below meth c H locs 0 0 (MQ below (QcI D cA ad (shC.take nC) A r s0) args s 0 0 A) (F0 m 0 ls []) := by
  have hx := K.1.1; have hb := K.1.2.1
  intro H locs ls v1 hw hl hF
  unfold F_Tokens_value_0 at hF
  refine lv_iload_n hx hb d_Tokens_value_0 rfl (lv_at hl 1 rfl) ?_
  refine lv_if_lt (tgt := 21) hx hb d_Tokens_value_1 (by decide) (fun c_1 => ?_) (fun c_1 => ?_)
  · replace hF := ifT hF c_1
    refine lv_iconst (v := 0) hx hb d_Tokens_value_21 (by decide) ?_
    replace hF := sE1 hF
    subst hF
    exact r_iret K hw d_Tokens_value_22
  · replace hF := ifF hF c_1
    refine lv_iload_n hx hb d_Tokens_value_4 rfl (lv_at hl 1 rfl) ?_
    refine lv_aload_n hx hb d_Tokens_value_5 rfl (lv_at hl 0 rfl) ?_
    refine r_get (v := .int (s0.1 3 4)) K hw i_Tokens (sh_Tokens (Nat.le_trans (Nat.le_of_ble_eq_true rfl) hn)) rfl 4 (by decide) w_292 rfl rfl rfl d_Tokens_value_6 ?_
    refine lv_icmp_ge (tgt := 21) hx hb d_Tokens_value_9 (by decide) (fun c_2 => ?_) (fun c_2 => ?_)
    · replace hF := ifT hF c_2
      refine lv_iconst (v := 0) hx hb d_Tokens_value_21 (by decide) ?_
      replace hF := sE1 hF
      subst hF
      exact r_iret K hw d_Tokens_value_22
    · replace hF := ifF hF c_2
      refine lv_aload_n hx hb d_Tokens_value_12 rfl (lv_at hl 0 rfl) ?_
      refine r_get (v := .ref (ad 5)) K hw i_Tokens (sh_Tokens (Nat.le_trans (Nat.le_of_ble_eq_true rfl) hn)) rfl 2 (by decide) w_290 rfl rfl rfl d_Tokens_value_13 ?_
      refine lv_iload_n hx hb d_Tokens_value_16 rfl (lv_at hl 1 rfl) ?_
      obtain ⟨g_3, hF⟩ := ifG hF
      refine r_iald (k := v1.toNatClampNeg) K hw (sh_a5 (Nat.le_trans (Nat.le_of_ble_eq_true rfl) hn)) rfl (inB_vp g_3) d_Tokens_value_17 ?_
      refine lv_goto (tgt := 22) hx hb d_Tokens_value_18 (by decide) ?_
      replace hF := sE1 hF
      subst hF
      exact r_iret K hw d_Tokens_value_22
end S_Tokens_value
noncomputable abbrev F_Tokens_value := F_Tokens_value_0
theorem c_Tokens_value {l : Launch} {D : va_G} {cA : Nat → ClassId} {ad : Nat → Nat} {s0 : St} {nC : Nat} (hn : 6 ≤ nC) {r : Int32} {v1 : Int32}  (hF : F_Tokens_value s0 v1 = (some r)) : MI l D cA ad (shC.take nC) y_Tokens_value (wT y_Tokens_value b_Tokens_value 2 (some .int)) rm_Tokens_value [.ref (ad 3), .int v1] s0 r s0 := fun sz => m_start (Qc := fun A => QcI D cA ad (shC.take nC) A r s0) (by decide +kernel) w_468 (Nat.le_of_ble_eq_true rfl) (fun p e s m below meth c ls K hl hw => q_Tokens_value_0 hn s0 K _ _ _ _  hw hl hF)
