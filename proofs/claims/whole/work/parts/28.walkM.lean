/-! Model.needs(II)I -/
abbrev b_Model_needs : ByteArray := prog_13_method_51_code
def y_Model_needs : MethodName := ⟨R_Model, "needs", "(II)I"⟩
theorem a_Model_needs : y_Model_needs.cls = R_Model ∧ y_Model_needs.cls ≠ "java/lang/invoke/MethodHandle" ∧ y_Model_needs.cls ≠ "java/lang/invoke/VarHandle" ∧ (parseMethodDescriptor y_Model_needs.desc).map (fun d => d.parameters.length) = some 2 := by decide +kernel
abbrev rm_Model_needs : Room := { frames := 6, cells := 0, slots := 0, locals := 153 }
theorem w_1299 : Cond.code y_Model_needs b_Model_needs 4 (some .int) ∈ TB := tb_in 1299 (by decide +kernel) (by decide +kernel)
theorem d_Model_needs_0 : decode b_Model_needs 0 = .ok (.aload_n 0, 1) := by decide +kernel
theorem d_Model_needs_1 : decode b_Model_needs 1 = .ok (.iload_n 1, 1) := by decide +kernel
theorem d_Model_needs_2 : decode b_Model_needs 2 = .ok (.iload_n 2, 1) := by decide +kernel
theorem d_Model_needs_3 : decode b_Model_needs 3 = .ok (.invokevirtual 86, 3) := by decide +kernel
theorem d_Model_needs_6 : decode b_Model_needs 6 = .ok (.ifCond .ne 6, 3) := by decide +kernel
theorem d_Model_needs_9 : decode b_Model_needs 9 = .ok (.bipush (-5), 2) := by decide +kernel
theorem d_Model_needs_11 : decode b_Model_needs 11 = .ok (.ireturn, 1) := by decide +kernel
theorem d_Model_needs_12 : decode b_Model_needs 12 = .ok (.iconst 0, 1) := by decide +kernel
theorem d_Model_needs_13 : decode b_Model_needs 13 = .ok (.istore_n 3, 1) := by decide +kernel
theorem d_Model_needs_14 : decode b_Model_needs 14 = .ok (.iload_n 3, 1) := by decide +kernel
theorem d_Model_needs_15 : decode b_Model_needs 15 = .ok (.bipush 24, 2) := by decide +kernel
theorem d_Model_needs_17 : decode b_Model_needs 17 = .ok (.if_icmp .gt 38, 3) := by decide +kernel
theorem d_Model_needs_20 : decode b_Model_needs 20 = .ok (.aload_n 0, 1) := by decide +kernel
theorem d_Model_needs_21 : decode b_Model_needs 21 = .ok (.iload_n 1, 1) := by decide +kernel
theorem d_Model_needs_22 : decode b_Model_needs 22 = .ok (.iload_n 2, 1) := by decide +kernel
theorem d_Model_needs_23 : decode b_Model_needs 23 = .ok (.iconst 0, 1) := by decide +kernel
theorem d_Model_needs_24 : decode b_Model_needs 24 = .ok (.invokevirtual 210, 3) := by decide +kernel
theorem d_Model_needs_27 : decode b_Model_needs 27 = .ok (.aload_n 0, 1) := by decide +kernel
theorem d_Model_needs_28 : decode b_Model_needs 28 = .ok (.iload_n 3, 1) := by decide +kernel
theorem d_Model_needs_29 : decode b_Model_needs 29 = .ok (.putfield 184, 3) := by decide +kernel
theorem d_Model_needs_32 : decode b_Model_needs 32 = .ok (.aload_n 0, 1) := by decide +kernel
theorem d_Model_needs_33 : decode b_Model_needs 33 = .ok (.iload_n 1, 1) := by decide +kernel
theorem d_Model_needs_34 : decode b_Model_needs 34 = .ok (.iload_n 2, 1) := by decide +kernel
theorem d_Model_needs_35 : decode b_Model_needs 35 = .ok (.bipush 40, 2) := by decide +kernel
theorem d_Model_needs_37 : decode b_Model_needs 37 = .ok (.invokevirtual 213, 3) := by decide +kernel
theorem d_Model_needs_40 : decode b_Model_needs 40 = .ok (.aload_n 0, 1) := by decide +kernel
theorem d_Model_needs_41 : decode b_Model_needs 41 = .ok (.getfield 187, 3) := by decide +kernel
theorem d_Model_needs_44 : decode b_Model_needs 44 = .ok (.ifCond .le 5, 3) := by decide +kernel
theorem d_Model_needs_47 : decode b_Model_needs 47 = .ok (.iload_n 3, 1) := by decide +kernel
theorem d_Model_needs_48 : decode b_Model_needs 48 = .ok (.ireturn, 1) := by decide +kernel
theorem d_Model_needs_49 : decode b_Model_needs 49 = .ok (.iinc 3 1, 3) := by decide +kernel
theorem d_Model_needs_52 : decode b_Model_needs 52 = .ok (.goto (-38), 3) := by decide +kernel
theorem d_Model_needs_55 : decode b_Model_needs 55 = .ok (.iconst (-1), 1) := by decide +kernel
theorem d_Model_needs_56 : decode b_Model_needs 56 = .ok (.ireturn, 1) := by decide +kernel
section S_Model_needs
variable {p : Program} {l : Launch} {e : Env} {s : State} {m : MethodId} {args : Array Value} {below : List Frame} {meth : Method} {c : Code} {D : va_G} {cA : Nat → ClassId} {ad : Nat → Nat} {nC : Nat} {A : Nat → Prop} {r : Int32} {τ : St}
noncomputable def F_Model_needs_14 : Nat → St → Int32 → Int32 → Int32 → Option (Int32 × St)
  | 0, _, _, _, _ => none
  | n + 1, s0, v1, v2, v3 => (if (24 : Int32) < v3 then (some ((-1 : Int32), s0)) else (ob1 (F_Model_begins s0 v1 v2 (0 : Int32)) (fun s_4 => (lt (up1 s_4 0 33 v3) (fun s_5 => (ob1 (F_Model_goesOn s_5 v1 v2 (40 : Int32)) (fun s_6 => (if (s_6.1 0 32) ≤ 0 then (F_Model_needs_14 n s_6 v1 v2 (v3 + 1)) else (some (v3, s_6))))))))))
set_option maxHeartbeats 4000000 in
set_option maxRecDepth 100000 in
theorem q_Model_needs_14 (K : Fx p s m args meth c b_Model_needs 4 R_Model (some .int))  : ∀ (n : Nat), ∀ (H : Heap) (locs : List Loc) (ls : Array Slot) (s0 : St) (v1 : Int32) (v2 : Int32) (v3 : Int32), Wh D cA ad shM A s s0 H locs → lv_has ls 4 [(0, .ref (ad 0)), (1, .int v1), (2, .int v2), (3, .int v3)] → F_Model_needs_14 n s0 v1 v2 v3 = (some (r, τ)) → W p l e rm_Model_needs s m args below meth c H locs 0 0 (MQ below (QcI D cA ad shM A r τ) args s 0 0 A) (F0 m 14 ls []) := by
  have hx := K.1.1; have hb := K.1.2.1
  intro n
  induction n with
  | zero =>
    intro H locs ls s0 v1 v2 v3 hw hl hF
    exact absurd hF (by rw [F_Model_needs_14]; exact nofun)
  | succ n ih =>
    intro H locs ls s0 v1 v2 v3 hw hl hF
    rw [F_Model_needs_14] at hF
    refine lv_iload_n hx hb d_Model_needs_14 rfl (lv_at hl 3 rfl) ?_
    refine lv_bipush (v := 24) hx hb d_Model_needs_15 (by decide) ?_
    refine lv_icmp_gt (tgt := 55) hx hb d_Model_needs_17 (by decide) (fun c_3 => ?_) (fun c_3 => ?_)
    · replace hF := ifT hF c_3
      refine lv_iconst (v := -1) hx hb d_Model_needs_55 (by decide) ?_
      obtain ⟨hF, hG⟩ := sE2 hF
      subst hF
      subst hG
      exact r_iret K hw d_Model_needs_56
    · replace hF := ifF hF c_3
      refine lv_aload_n hx hb d_Model_needs_20 rfl (lv_at hl 0 rfl) ?_
      refine lv_iload_n hx hb d_Model_needs_21 rfl (lv_at hl 1 rfl) ?_
      refine lv_iload_n hx hb d_Model_needs_22 rfl (lv_at hl 2 rfl) ?_
      refine lv_iconst (v := 0) hx hb d_Model_needs_23 (by decide) ?_
      obtain ⟨s_4, h_s_4, hF⟩ := ob1E hF
      refine r_callVV (As := [.int v1, .int v2, .int (0 : Int32)]) (rest := []) K hw hl.1 (c_Model_begins (l := l) (D := D) (cA := cA) (ad := ad) (s0 := s0)   h_s_4) sh_Model rfl (tb_gV w_1230 w_1232 w_45 w_80 w_1233) a_Model_begins ⟨rfl, rfl, Nat.le_of_ble_eq_true rfl, Nat.le_of_ble_eq_true rfl⟩ rfl rfl (Nat.le_of_ble_eq_true rfl) d_Model_needs_24 (fun H locs hw => ?_)
      refine lv_aload_n hx hb d_Model_needs_27 rfl (lv_at hl 0 rfl) ?_
      refine lv_iload_n hx hb d_Model_needs_28 rfl (lv_at hl 3 rfl) ?_
      refine r_putI K hw i_Model t_Model t_Model_ok n_Model sh_Model rfl 33 (by decide) w_1058 rfl rfl rfl rfl rfl d_Model_needs_29 (fun s_5 f_s_5 H locs hw => ?_)
      replace hF := ltN hF f_s_5
      refine lv_aload_n hx hb d_Model_needs_32 rfl (lv_at hl 0 rfl) ?_
      refine lv_iload_n hx hb d_Model_needs_33 rfl (lv_at hl 1 rfl) ?_
      refine lv_iload_n hx hb d_Model_needs_34 rfl (lv_at hl 2 rfl) ?_
      refine lv_bipush (v := 40) hx hb d_Model_needs_35 (by decide) ?_
      obtain ⟨s_6, h_s_6, hF⟩ := ob1E hF
      refine r_callVV (As := [.int v1, .int v2, .int (40 : Int32)]) (rest := []) K hw hl.1 (c_Model_goesOn (l := l) (D := D) (cA := cA) (ad := ad) (s0 := s_5)   h_s_6) sh_Model rfl (tb_gV w_1234 w_1236 w_46 w_80 w_1237) a_Model_goesOn ⟨rfl, rfl, Nat.le_of_ble_eq_true rfl, Nat.le_of_ble_eq_true rfl⟩ rfl rfl (Nat.le_of_ble_eq_true rfl) d_Model_needs_37 (fun H locs hw => ?_)
      refine lv_aload_n hx hb d_Model_needs_40 rfl (lv_at hl 0 rfl) ?_
      refine r_get (v := .int (s_6.1 0 32)) K hw i_Model sh_Model rfl 32 (by decide) w_1057 rfl rfl rfl d_Model_needs_41 ?_
      refine lv_if_le (tgt := 49) hx hb d_Model_needs_44 (by decide) (fun c_7 => ?_) (fun c_7 => ?_)
      · replace hF := ifT hF c_7
        refine lv_iinc (v := (v3 + 1)) (lv' := [(3, .int (v3 + 1)), (0, .ref (ad 0)), (1, .int v1), (2, .int v2)]) hx hb d_Model_needs_49 hl (k := 3) rfl rfl (by decide) rfl (fun ls hl => ?_)
        refine lv_goto (tgt := 14) hx hb d_Model_needs_52 (by decide) ?_
        exact ih _ _ _ _ _ _ _  hw (lv_sub hl [1, 2, 3, 0] rfl) hF
      · replace hF := ifF hF c_7
        refine lv_iload_n hx hb d_Model_needs_47 rfl (lv_at hl 3 rfl) ?_
        obtain ⟨hF, hG⟩ := sE2 hF
        subst hF
        subst hG
        exact r_iret K hw d_Model_needs_48
noncomputable def F_Model_needs_0 (s0 : St) (v1 : Int32) (v2 : Int32) : Option (Int32 × St) := (ob1 (F_Model_areTwo s0 v1 v2) (fun r_1 => (if ¬ r_1 = 0 then (F_Model_needs_14 FU s0 v1 v2 (0 : Int32)) else (some ((-5 : Int32), s0)))))
set_option maxHeartbeats 4000000 in
set_option maxRecDepth 100000 in
theorem q_Model_needs_0 (K : Fx p s m args meth c b_Model_needs 4 R_Model (some .int))  : ∀ (H : Heap) (locs : List Loc) (ls : Array Slot) (s0 : St) (v1 : Int32) (v2 : Int32), Wh D cA ad shM A s s0 H locs → lv_has ls 4 [(0, .ref (ad 0)), (1, .int v1), (2, .int v2)] → F_Model_needs_0 s0 v1 v2 = (some (r, τ)) → W p l e rm_Model_needs s m args below meth c H locs 0 0 (MQ below (QcI D cA ad shM A r τ) args s 0 0 A) (F0 m 0 ls []) := by
  have hx := K.1.1; have hb := K.1.2.1
  intro H locs ls s0 v1 v2 hw hl hF
  unfold F_Model_needs_0 at hF
  refine lv_aload_n hx hb d_Model_needs_0 rfl (lv_at hl 0 rfl) ?_
  refine lv_iload_n hx hb d_Model_needs_1 rfl (lv_at hl 1 rfl) ?_
  refine lv_iload_n hx hb d_Model_needs_2 rfl (lv_at hl 2 rfl) ?_
  obtain ⟨r_1, h_r_1, hF⟩ := ob1E hF
  refine r_callVI (As := [.int v1, .int v2]) (rest := []) K hw hl.1 (c_Model_areTwo (l := l) (D := D) (cA := cA) (ad := ad) (s0 := s0)   h_r_1) sh_Model rfl (tb_gV w_1226 w_1228 w_44 w_80 w_1229) a_Model_areTwo ⟨rfl, rfl, Nat.le_of_ble_eq_true rfl, Nat.le_of_ble_eq_true rfl⟩ rfl rfl (Nat.le_of_ble_eq_true rfl) d_Model_needs_3 (fun H locs hw => ?_)
  refine lv_if_ne (tgt := 12) hx hb d_Model_needs_6 (by decide) (fun c_2 => ?_) (fun c_2 => ?_)
  · replace hF := ifT hF c_2
    refine lv_iconst (v := 0) hx hb d_Model_needs_12 (by decide) ?_
    refine lv_istore_n (lv' := [(3, .int (0 : Int32)), (0, .ref (ad 0)), (1, .int v1), (2, .int v2)]) hx hb d_Model_needs_13 rfl hl (by decide) rfl (fun ls hl => ?_)
    exact q_Model_needs_14 K FU _ _ _ _ _ _ _  hw (lv_sub hl [1, 2, 3, 0] rfl) hF
  · replace hF := ifN hF c_2
    refine lv_bipush (v := -5) hx hb d_Model_needs_9 (by decide) ?_
    obtain ⟨hF, hG⟩ := sE2 hF
    subst hF
    subst hG
    exact r_iret K hw d_Model_needs_11
end S_Model_needs
noncomputable abbrev F_Model_needs := F_Model_needs_0
theorem c_Model_needs {l : Launch} {D : va_G} {cA : Nat → ClassId} {ad : Nat → Nat} {s0 τ : St} {r : Int32} {v1 : Int32} {v2 : Int32}  (hF : F_Model_needs s0 v1 v2 = (some (r, τ))) : MI l D cA ad shM y_Model_needs (wT y_Model_needs b_Model_needs 4 (some .int)) rm_Model_needs [.ref (ad 0), .int v1, .int v2] s0 r τ := fun sz => m_start (Qc := fun A => QcI D cA ad shM A r τ) (by decide +kernel) w_1299 (Nat.le_of_ble_eq_true rfl) (fun p e s m below meth c ls K hl hw => q_Model_needs_0 K _ _ _ _ _ _  hw hl hF)

/-! Model.ones(I)I -/
abbrev b_Model_ones : ByteArray := prog_13_method_52_code
def y_Model_ones : MethodName := ⟨R_Model, "ones", "(I)I"⟩
theorem a_Model_ones : y_Model_ones.cls = R_Model ∧ y_Model_ones.cls ≠ "java/lang/invoke/MethodHandle" ∧ y_Model_ones.cls ≠ "java/lang/invoke/VarHandle" ∧ (parseMethodDescriptor y_Model_ones.desc).map (fun d => d.parameters.length) = some 1 := by decide +kernel
abbrev rm_Model_ones : Room := { frames := 0, cells := 0, slots := 0, locals := 0 }
theorem w_1306 : Cond.code y_Model_ones b_Model_ones 3 (some .int) ∈ TB := tb_in 1306 (by decide +kernel) (by decide +kernel)
theorem d_Model_ones_0 : decode b_Model_ones 0 = .ok (.iconst 0, 1) := by decide +kernel
theorem d_Model_ones_1 : decode b_Model_ones 1 = .ok (.istore_n 1, 1) := by decide +kernel
theorem d_Model_ones_2 : decode b_Model_ones 2 = .ok (.iconst 0, 1) := by decide +kernel
theorem d_Model_ones_3 : decode b_Model_ones 3 = .ok (.istore_n 2, 1) := by decide +kernel
theorem d_Model_ones_4 : decode b_Model_ones 4 = .ok (.iload_n 2, 1) := by decide +kernel
theorem d_Model_ones_5 : decode b_Model_ones 5 = .ok (.bipush 12, 2) := by decide +kernel
theorem d_Model_ones_7 : decode b_Model_ones 7 = .ok (.if_icmp .ge 17, 3) := by decide +kernel
theorem d_Model_ones_10 : decode b_Model_ones 10 = .ok (.iload_n 1, 1) := by decide +kernel
theorem d_Model_ones_11 : decode b_Model_ones 11 = .ok (.iload_n 0, 1) := by decide +kernel
theorem d_Model_ones_12 : decode b_Model_ones 12 = .ok (.iload_n 2, 1) := by decide +kernel
theorem d_Model_ones_13 : decode b_Model_ones 13 = .ok (.ishr, 1) := by decide +kernel
theorem d_Model_ones_14 : decode b_Model_ones 14 = .ok (.iconst 1, 1) := by decide +kernel
theorem d_Model_ones_15 : decode b_Model_ones 15 = .ok (.iand, 1) := by decide +kernel
theorem d_Model_ones_16 : decode b_Model_ones 16 = .ok (.iadd, 1) := by decide +kernel
theorem d_Model_ones_17 : decode b_Model_ones 17 = .ok (.istore_n 1, 1) := by decide +kernel
theorem d_Model_ones_18 : decode b_Model_ones 18 = .ok (.iinc 2 1, 3) := by decide +kernel
theorem d_Model_ones_21 : decode b_Model_ones 21 = .ok (.goto (-17), 3) := by decide +kernel
theorem d_Model_ones_24 : decode b_Model_ones 24 = .ok (.iload_n 1, 1) := by decide +kernel
theorem d_Model_ones_25 : decode b_Model_ones 25 = .ok (.ireturn, 1) := by decide +kernel
section S_Model_ones
variable {p : Program} {l : Launch} {e : Env} {s : State} {m : MethodId} {args : Array Value} {below : List Frame} {meth : Method} {c : Code} {D : va_G} {cA : Nat → ClassId} {ad : Nat → Nat} {nC : Nat} {A : Nat → Prop} {r : Int32} {τ : St}
noncomputable def F_Model_ones_4 : Nat → Int32 → Int32 → Int32 → Option Int32
  | 0, _, _, _ => none
  | n + 1, v0, v1, v2 => (if (12 : Int32) ≤ v2 then (some v1) else (F_Model_ones_4 n v0 (v1 + ((jshr v0 v2) &&& (1 : Int32))) (v2 + 1)))
set_option maxHeartbeats 4000000 in
set_option maxRecDepth 100000 in
theorem q_Model_ones_4 (s0 : St) (K : Fx p s m args meth c b_Model_ones 3 R_Model (some .int))  : ∀ (n : Nat), ∀ (H : Heap) (locs : List Loc) (ls : Array Slot) (v0 : Int32) (v1 : Int32) (v2 : Int32), Wh D cA ad shM A s s0 H locs → lv_has ls 3 [(0, .int v0), (1, .int v1), (2, .int v2)] → F_Model_ones_4 n v0 v1 v2 = (some r) → W p l e rm_Model_ones s m args below meth c H locs 0 0 (MQ below (QcI D cA ad shM A r s0) args s 0 0 A) (F0 m 4 ls []) := by
  have hx := K.1.1; have hb := K.1.2.1
  intro n
  induction n with
  | zero =>
    intro H locs ls v0 v1 v2 hw hl hF
    exact absurd hF (by rw [F_Model_ones_4]; exact nofun)
  | succ n ih =>
    intro H locs ls v0 v1 v2 hw hl hF
    rw [F_Model_ones_4] at hF
    refine lv_iload_n hx hb d_Model_ones_4 rfl (lv_at hl 2 rfl) ?_
    refine lv_bipush (v := 12) hx hb d_Model_ones_5 (by decide) ?_
    refine lv_icmp_ge (tgt := 24) hx hb d_Model_ones_7 (by decide) (fun c_1 => ?_) (fun c_1 => ?_)
    · replace hF := ifT hF c_1
      refine lv_iload_n hx hb d_Model_ones_24 rfl (lv_at hl 1 rfl) ?_
      replace hF := sE1 hF
      subst hF
      exact r_iret K hw d_Model_ones_25
    · replace hF := ifF hF c_1
      refine lv_iload_n hx hb d_Model_ones_10 rfl (lv_at hl 1 rfl) ?_
      refine lv_iload_n hx hb d_Model_ones_11 rfl (lv_at hl 0 rfl) ?_
      refine lv_iload_n hx hb d_Model_ones_12 rfl (lv_at hl 2 rfl) ?_
      refine lv_ishr hx hb d_Model_ones_13 ?_
      refine lv_iconst (v := 1) hx hb d_Model_ones_14 (by decide) ?_
      refine lv_iand hx hb d_Model_ones_15 ?_
      refine lv_iadd hx hb d_Model_ones_16 ?_
      refine lv_istore_n (lv' := [(1, .int (v1 + ((jshr v0 v2) &&& (1 : Int32)))), (0, .int v0), (2, .int v2)]) hx hb d_Model_ones_17 rfl hl (by decide) rfl (fun ls hl => ?_)
      refine lv_iinc (v := (v2 + 1)) (lv' := [(2, .int (v2 + 1)), (1, .int (v1 + ((jshr v0 v2) &&& (1 : Int32)))), (0, .int v0)]) hx hb d_Model_ones_18 hl (k := 2) rfl rfl (by decide) rfl (fun ls hl => ?_)
      refine lv_goto (tgt := 4) hx hb d_Model_ones_21 (by decide) ?_
      exact ih _ _ _ _ _ _  hw (lv_sub hl [2, 1, 0] rfl) hF
noncomputable def F_Model_ones_0 (v0 : Int32) : Option Int32 := (F_Model_ones_4 FU v0 (0 : Int32) (0 : Int32))
set_option maxHeartbeats 4000000 in
set_option maxRecDepth 100000 in
theorem q_Model_ones_0 (s0 : St) (K : Fx p s m args meth c b_Model_ones 3 R_Model (some .int))  : ∀ (H : Heap) (locs : List Loc) (ls : Array Slot) (v0 : Int32), Wh D cA ad shM A s s0 H locs → lv_has ls 3 [(0, .int v0)] → F_Model_ones_0 v0 = (some r) → W p l e rm_Model_ones s m args below meth c H locs 0 0 (MQ below (QcI D cA ad shM A r s0) args s 0 0 A) (F0 m 0 ls []) := by
  have hx := K.1.1; have hb := K.1.2.1
  intro H locs ls v0 hw hl hF
  unfold F_Model_ones_0 at hF
  refine lv_iconst (v := 0) hx hb d_Model_ones_0 (by decide) ?_
  refine lv_istore_n (lv' := [(1, .int (0 : Int32)), (0, .int v0)]) hx hb d_Model_ones_1 rfl hl (by decide) rfl (fun ls hl => ?_)
  refine lv_iconst (v := 0) hx hb d_Model_ones_2 (by decide) ?_
  refine lv_istore_n (lv' := [(2, .int (0 : Int32)), (1, .int (0 : Int32)), (0, .int v0)]) hx hb d_Model_ones_3 rfl hl (by decide) rfl (fun ls hl => ?_)
  exact q_Model_ones_4 s0 K FU _ _ _ _ _ _  hw (lv_sub hl [2, 1, 0] rfl) hF
end S_Model_ones
noncomputable abbrev F_Model_ones := F_Model_ones_0
theorem c_Model_ones {l : Launch} {D : va_G} {cA : Nat → ClassId} {ad : Nat → Nat} {s0 : St} {r : Int32} {v0 : Int32}  (hF : F_Model_ones v0 = (some r)) : MI l D cA ad shM y_Model_ones (wT y_Model_ones b_Model_ones 3 (some .int)) rm_Model_ones [.int v0] s0 r s0 := fun sz => m_start (Qc := fun A => QcI D cA ad shM A r s0) (by decide +kernel) w_1306 (Nat.le_of_ble_eq_true rfl) (fun p e s m below meth c ls K hl hw => q_Model_ones_0 s0 K _ _ _ _  hw hl hF)

/-! Model.takesOn(IIIII)V -/
abbrev b_Model_takesOn : ByteArray := prog_13_method_53_code
def y_Model_takesOn : MethodName := ⟨R_Model, "takesOn", "(IIIII)V"⟩
theorem a_Model_takesOn : y_Model_takesOn.cls = R_Model ∧ y_Model_takesOn.cls ≠ "java/lang/invoke/MethodHandle" ∧ y_Model_takesOn.cls ≠ "java/lang/invoke/VarHandle" ∧ (parseMethodDescriptor y_Model_takesOn.desc).map (fun d => d.parameters.length) = some 5 := by decide +kernel
def rmTakes (d : Nat) : Room := { frames := d + 6, cells := 0, slots := 0, locals := d * 26 + 153 }
theorem rmTakes_step (d : Nat) : (rmTakes d).frames + 1 ≤ (rmTakes (d + 1)).frames ∧ ∀ mL, mL ≤ 7 → 8 + (mL + 11) + (rmTakes d).locals ≤ (rmTakes (d + 1)).locals := by
  simp only [rmTakes]
  exact ⟨by omega, fun mL h => by omega⟩
theorem rmTakes_big (d : Nat) : 6 ≤ (rmTakes (d + 1)).frames ∧ 153 ≤ (rmTakes (d + 1)).locals := by
  simp only [rmTakes]
  exact ⟨by omega, by omega⟩
theorem w_1067 : Cond.fieldLink R_Model 244 R_Model "mostBeaten" "I" ∈ TB := tb_in 1067 (by decide +kernel) (by decide +kernel)
theorem w_1310 : Cond.code y_Model_takesOn b_Model_takesOn 7 none ∈ TB := tb_in 1310 (by decide +kernel) (by decide +kernel)
theorem w_1307 : Cond.methodLink R_Model 250 y_Model_takesOn ∈ TB := tb_in 1307 (by decide +kernel) (by decide +kernel)
theorem w_1309 : Cond.instanceMethod y_Model_takesOn ∈ TB := tb_in 1309 (by decide +kernel) (by decide +kernel)
theorem w_54 : Cond.selects R_Model y_Model_takesOn y_Model_takesOn ∈ TB := tb_in 54 (by decide +kernel) (by decide +kernel)
theorem w_1068 : Cond.fieldLink R_Model 247 R_Model "firstOrde\x72" "I" ∈ TB := tb_in 1068 (by decide +kernel) (by decide +kernel)
theorem d_Model_takesOn_0 : decode b_Model_takesOn 0 = .ok (.iload 4, 2) := by decide +kernel
theorem d_Model_takesOn_2 : decode b_Model_takesOn 2 = .ok (.aload_n 0, 1) := by decide +kernel
theorem d_Model_takesOn_3 : decode b_Model_takesOn 3 = .ok (.getfield 244, 3) := by decide +kernel
theorem d_Model_takesOn_6 : decode b_Model_takesOn 6 = .ok (.if_icmp .le 15, 3) := by decide +kernel
theorem d_Model_takesOn_9 : decode b_Model_takesOn 9 = .ok (.aload_n 0, 1) := by decide +kernel
theorem d_Model_takesOn_10 : decode b_Model_takesOn 10 = .ok (.iload 4, 2) := by decide +kernel
theorem d_Model_takesOn_12 : decode b_Model_takesOn 12 = .ok (.putfield 244, 3) := by decide +kernel
theorem d_Model_takesOn_15 : decode b_Model_takesOn 15 = .ok (.aload_n 0, 1) := by decide +kernel
theorem d_Model_takesOn_16 : decode b_Model_takesOn 16 = .ok (.iload 5, 2) := by decide +kernel
theorem d_Model_takesOn_18 : decode b_Model_takesOn 18 = .ok (.putfield 247, 3) := by decide +kernel
theorem d_Model_takesOn_21 : decode b_Model_takesOn 21 = .ok (.iconst 0, 1) := by decide +kernel
theorem d_Model_takesOn_22 : decode b_Model_takesOn 22 = .ok (.istore 6, 2) := by decide +kernel
theorem d_Model_takesOn_24 : decode b_Model_takesOn 24 = .ok (.iload 6, 2) := by decide +kernel
theorem d_Model_takesOn_26 : decode b_Model_takesOn 26 = .ok (.aload_n 0, 1) := by decide +kernel
theorem d_Model_takesOn_27 : decode b_Model_takesOn 27 = .ok (.getfield 75, 3) := by decide +kernel
theorem d_Model_takesOn_30 : decode b_Model_takesOn 30 = .ok (.if_icmp .ge 87, 3) := by decide +kernel
theorem d_Model_takesOn_33 : decode b_Model_takesOn 33 = .ok (.iload_n 2, 1) := by decide +kernel
theorem d_Model_takesOn_34 : decode b_Model_takesOn 34 = .ok (.iload 6, 2) := by decide +kernel
theorem d_Model_takesOn_36 : decode b_Model_takesOn 36 = .ok (.ishr, 1) := by decide +kernel
theorem d_Model_takesOn_37 : decode b_Model_takesOn 37 = .ok (.iconst 1, 1) := by decide +kernel
theorem d_Model_takesOn_38 : decode b_Model_takesOn 38 = .ok (.iand, 1) := by decide +kernel
theorem d_Model_takesOn_39 : decode b_Model_takesOn 39 = .ok (.iconst 1, 1) := by decide +kernel
theorem d_Model_takesOn_40 : decode b_Model_takesOn 40 = .ok (.if_icmp .ne 71, 3) := by decide +kernel
theorem d_Model_takesOn_43 : decode b_Model_takesOn 43 = .ok (.aload_n 0, 1) := by decide +kernel
theorem d_Model_takesOn_44 : decode b_Model_takesOn 44 = .ok (.iload_n 1, 1) := by decide +kernel
theorem d_Model_takesOn_45 : decode b_Model_takesOn 45 = .ok (.iload 6, 2) := by decide +kernel
theorem d_Model_takesOn_47 : decode b_Model_takesOn 47 = .ok (.iconst 0, 1) := by decide +kernel
theorem d_Model_takesOn_48 : decode b_Model_takesOn 48 = .ok (.invokevirtual 210, 3) := by decide +kernel
theorem d_Model_takesOn_51 : decode b_Model_takesOn 51 = .ok (.aload_n 0, 1) := by decide +kernel
theorem d_Model_takesOn_52 : decode b_Model_takesOn 52 = .ok (.iload_n 3, 1) := by decide +kernel
theorem d_Model_takesOn_53 : decode b_Model_takesOn 53 = .ok (.putfield 184, 3) := by decide +kernel
theorem d_Model_takesOn_56 : decode b_Model_takesOn 56 = .ok (.aload_n 0, 1) := by decide +kernel
theorem d_Model_takesOn_57 : decode b_Model_takesOn 57 = .ok (.iload_n 1, 1) := by decide +kernel
theorem d_Model_takesOn_58 : decode b_Model_takesOn 58 = .ok (.iload 6, 2) := by decide +kernel
theorem d_Model_takesOn_60 : decode b_Model_takesOn 60 = .ok (.bipush 40, 2) := by decide +kernel
theorem d_Model_takesOn_62 : decode b_Model_takesOn 62 = .ok (.invokevirtual 213, 3) := by decide +kernel
theorem d_Model_takesOn_65 : decode b_Model_takesOn 65 = .ok (.aload_n 0, 1) := by decide +kernel
theorem d_Model_takesOn_66 : decode b_Model_takesOn 66 = .ok (.getfield 187, 3) := by decide +kernel
theorem d_Model_takesOn_69 : decode b_Model_takesOn 69 = .ok (.ifCond .le 42, 3) := by decide +kernel
theorem d_Model_takesOn_72 : decode b_Model_takesOn 72 = .ok (.aload_n 0, 1) := by decide +kernel
theorem d_Model_takesOn_73 : decode b_Model_takesOn 73 = .ok (.iload_n 1, 1) := by decide +kernel
theorem d_Model_takesOn_74 : decode b_Model_takesOn 74 = .ok (.iload_n 2, 1) := by decide +kernel
theorem d_Model_takesOn_75 : decode b_Model_takesOn 75 = .ok (.iconst 1, 1) := by decide +kernel
theorem d_Model_takesOn_76 : decode b_Model_takesOn 76 = .ok (.iload 6, 2) := by decide +kernel
theorem d_Model_takesOn_78 : decode b_Model_takesOn 78 = .ok (.ishl, 1) := by decide +kernel
theorem d_Model_takesOn_79 : decode b_Model_takesOn 79 = .ok (.iconst (-1), 1) := by decide +kernel
theorem d_Model_takesOn_80 : decode b_Model_takesOn 80 = .ok (.ixor, 1) := by decide +kernel
theorem d_Model_takesOn_81 : decode b_Model_takesOn 81 = .ok (.iand, 1) := by decide +kernel
theorem d_Model_takesOn_82 : decode b_Model_takesOn 82 = .ok (.aload_n 0, 1) := by decide +kernel
theorem d_Model_takesOn_83 : decode b_Model_takesOn 83 = .ok (.getfield 184, 3) := by decide +kernel
theorem d_Model_takesOn_86 : decode b_Model_takesOn 86 = .ok (.iconst 4, 1) := by decide +kernel
theorem d_Model_takesOn_87 : decode b_Model_takesOn 87 = .ok (.iadd, 1) := by decide +kernel
theorem d_Model_takesOn_88 : decode b_Model_takesOn 88 = .ok (.iconst 0, 1) := by decide +kernel
theorem d_Model_takesOn_89 : decode b_Model_takesOn 89 = .ok (.bipush 24, 2) := by decide +kernel
theorem d_Model_takesOn_91 : decode b_Model_takesOn 91 = .ok (.invokestatic 162, 3) := by decide +kernel
theorem d_Model_takesOn_94 : decode b_Model_takesOn 94 = .ok (.iload 4, 2) := by decide +kernel
theorem d_Model_takesOn_96 : decode b_Model_takesOn 96 = .ok (.iconst 1, 1) := by decide +kernel
theorem d_Model_takesOn_97 : decode b_Model_takesOn 97 = .ok (.iadd, 1) := by decide +kernel
theorem d_Model_takesOn_98 : decode b_Model_takesOn 98 = .ok (.bipush 10, 2) := by decide +kernel
theorem d_Model_takesOn_100 : decode b_Model_takesOn 100 = .ok (.iload 5, 2) := by decide +kernel
theorem d_Model_takesOn_102 : decode b_Model_takesOn 102 = .ok (.imul, 1) := by decide +kernel
theorem d_Model_takesOn_103 : decode b_Model_takesOn 103 = .ok (.iload 6, 2) := by decide +kernel
theorem d_Model_takesOn_105 : decode b_Model_takesOn 105 = .ok (.iadd, 1) := by decide +kernel
theorem d_Model_takesOn_106 : decode b_Model_takesOn 106 = .ok (.iconst 1, 1) := by decide +kernel
theorem d_Model_takesOn_107 : decode b_Model_takesOn 107 = .ok (.iadd, 1) := by decide +kernel
theorem d_Model_takesOn_108 : decode b_Model_takesOn 108 = .ok (.invokevirtual 250, 3) := by decide +kernel
theorem d_Model_takesOn_111 : decode b_Model_takesOn 111 = .ok (.iinc 6 1, 3) := by decide +kernel
theorem d_Model_takesOn_114 : decode b_Model_takesOn 114 = .ok (.goto (-90), 3) := by decide +kernel
theorem d_Model_takesOn_117 : decode b_Model_takesOn 117 = .ok (.return_, 1) := by decide +kernel
section S_Model_takesOn
variable {p : Program} {l : Launch} {e : Env} {s : State} {m : MethodId} {args : Array Value} {below : List Frame} {meth : Method} {c : Code} {D : va_G} {cA : Nat → ClassId} {ad : Nat → Nat} {nC : Nat} {A : Nat → Prop} {τ : St}
noncomputable def F_Model_takesOn_111 (r_Model_takesOn : St → Int32 → Int32 → Int32 → Int32 → Int32 → Option St) (k12 : (St → Int32 → Int32 → Int32 → Int32 → Int32 → Int32 → Option St)) (s0 : St) (v1 : Int32) (v2 : Int32) (v3 : Int32) (v4 : Int32) (v5 : Int32) (v6 : Int32) : Option St := (k12 s0 v1 v2 v3 v4 v5 (v6 + 1))
set_option maxHeartbeats 4000000 in
set_option maxRecDepth 100000 in
theorem q_Model_takesOn_111 {d : Nat} (r_Model_takesOn : St → Int32 → Int32 → Int32 → Int32 → Int32 → Option St) (hr_Model_takesOn : ∀ (s0 τ : St) (v1 : Int32) (v2 : Int32) (v3 : Int32) (v4 : Int32) (v5 : Int32), r_Model_takesOn s0 v1 v2 v3 v4 v5 = some τ → MV l D cA ad shM y_Model_takesOn (wT y_Model_takesOn b_Model_takesOn 7 none) (rmTakes d) [.ref (ad 0), .int v1, .int v2, .int v3, .int v4, .int v5] s0 τ) (K : Fx p s m args meth c b_Model_takesOn 7 R_Model none) (k12 : (St → Int32 → Int32 → Int32 → Int32 → Int32 → Int32 → Option St)) (hk12 : ∀ (H : Heap) (locs : List Loc) (ls : Array Slot) (s0 : St) (v1 : Int32) (v2 : Int32) (v3 : Int32) (v4 : Int32) (v5 : Int32) (v6 : Int32), Wh D cA ad shM A s s0 H locs → lv_has ls 7 [(0, .ref (ad 0)), (1, .int v1), (2, .int v2), (3, .int v3), (4, .int v4), (5, .int v5), (6, .int v6)] → k12 s0 v1 v2 v3 v4 v5 v6 = (some τ) → W p l e (rmTakes (d + 1)) s m args below meth c H locs 0 0 (MQ below (QcV D cA ad shM A τ) args s 0 0 A) (F0 m 24 ls [])) : ∀ (H : Heap) (locs : List Loc) (ls : Array Slot) (s0 : St) (v1 : Int32) (v2 : Int32) (v3 : Int32) (v4 : Int32) (v5 : Int32) (v6 : Int32), Wh D cA ad shM A s s0 H locs → lv_has ls 7 [(0, .ref (ad 0)), (1, .int v1), (2, .int v2), (3, .int v3), (4, .int v4), (5, .int v5), (6, .int v6)] → F_Model_takesOn_111 r_Model_takesOn k12 s0 v1 v2 v3 v4 v5 v6 = (some τ) → W p l e (rmTakes (d + 1)) s m args below meth c H locs 0 0 (MQ below (QcV D cA ad shM A τ) args s 0 0 A) (F0 m 111 ls []) := by
  have hx := K.1.1; have hb := K.1.2.1
  intro H locs ls s0 v1 v2 v3 v4 v5 v6 hw hl hF
  unfold F_Model_takesOn_111 at hF
  refine lv_iinc (v := (v6 + 1)) (lv' := [(6, .int (v6 + 1)), (0, .ref (ad 0)), (1, .int v1), (2, .int v2), (3, .int v3), (4, .int v4), (5, .int v5)]) hx hb d_Model_takesOn_111 hl (k := 6) rfl rfl (by decide) rfl (fun ls hl => ?_)
  refine lv_goto (tgt := 24) hx hb d_Model_takesOn_114 (by decide) ?_
  exact hk12 _ _ _ _ _ _ _ _ _ _  hw (lv_sub hl [1, 2, 3, 4, 5, 6, 0] rfl) hF
noncomputable def F_Model_takesOn_24 (r_Model_takesOn : St → Int32 → Int32 → Int32 → Int32 → Int32 → Option St) : Nat → St → Int32 → Int32 → Int32 → Int32 → Int32 → Int32 → Option St
  | 0, _, _, _, _, _, _, _ => none
  | n + 1, s0, v1, v2, v3, v4, v5, v6 => (if (s0.1 0 0) ≤ v6 then (some s0) else (if ¬ ((jshr v2 v6) &&& (1 : Int32)) = (1 : Int32) then (F_Model_takesOn_111 r_Model_takesOn (fun z0 zv1 zv2 zv3 zv4 zv5 zv6 => F_Model_takesOn_24 r_Model_takesOn n z0 zv1 zv2 zv3 zv4 zv5 zv6) s0 v1 v2 v3 v4 v5 v6) else (ob1 (F_Model_begins s0 v1 v6 (0 : Int32)) (fun s_4 => (lt (up1 s_4 0 33 v3) (fun s_5 => (ob1 (F_Model_goesOn s_5 v1 v6 (40 : Int32)) (fun s_6 => (if (s_6.1 0 32) ≤ 0 then (F_Model_takesOn_111 r_Model_takesOn (fun z0 zv1 zv2 zv3 zv4 zv5 zv6 => F_Model_takesOn_24 r_Model_takesOn n z0 zv1 zv2 zv3 zv4 zv5 zv6) s_6 v1 v2 v3 v4 v5 v6) else (ob1 (r_Model_takesOn s_6 v1 (v2 &&& ((jshl (1 : Int32) v6) ^^^ (-1 : Int32))) (F_Model_within ((s_6.1 0 33) + (4 : Int32)) (0 : Int32) (24 : Int32)) (v4 + (1 : Int32)) ((((10 : Int32) * v5) + v6) + (1 : Int32))) (fun s_8 => (F_Model_takesOn_111 r_Model_takesOn (fun z0 zv1 zv2 zv3 zv4 zv5 zv6 => F_Model_takesOn_24 r_Model_takesOn n z0 zv1 zv2 zv3 zv4 zv5 zv6) s_8 v1 v2 v3 v4 v5 v6))))))))))))
set_option maxHeartbeats 4000000 in
set_option maxRecDepth 100000 in
theorem q_Model_takesOn_24 {d : Nat} (r_Model_takesOn : St → Int32 → Int32 → Int32 → Int32 → Int32 → Option St) (hr_Model_takesOn : ∀ (s0 τ : St) (v1 : Int32) (v2 : Int32) (v3 : Int32) (v4 : Int32) (v5 : Int32), r_Model_takesOn s0 v1 v2 v3 v4 v5 = some τ → MV l D cA ad shM y_Model_takesOn (wT y_Model_takesOn b_Model_takesOn 7 none) (rmTakes d) [.ref (ad 0), .int v1, .int v2, .int v3, .int v4, .int v5] s0 τ) (K : Fx p s m args meth c b_Model_takesOn 7 R_Model none)  : ∀ (n : Nat), ∀ (H : Heap) (locs : List Loc) (ls : Array Slot) (s0 : St) (v1 : Int32) (v2 : Int32) (v3 : Int32) (v4 : Int32) (v5 : Int32) (v6 : Int32), Wh D cA ad shM A s s0 H locs → lv_has ls 7 [(0, .ref (ad 0)), (1, .int v1), (2, .int v2), (3, .int v3), (4, .int v4), (5, .int v5), (6, .int v6)] → F_Model_takesOn_24 r_Model_takesOn n s0 v1 v2 v3 v4 v5 v6 = (some τ) → W p l e (rmTakes (d + 1)) s m args below meth c H locs 0 0 (MQ below (QcV D cA ad shM A τ) args s 0 0 A) (F0 m 24 ls []) := by
  have hx := K.1.1; have hb := K.1.2.1
  intro n
  induction n with
  | zero =>
    intro H locs ls s0 v1 v2 v3 v4 v5 v6 hw hl hF
    exact absurd hF (by rw [F_Model_takesOn_24]; exact nofun)
  | succ n ih =>
    intro H locs ls s0 v1 v2 v3 v4 v5 v6 hw hl hF
    rw [F_Model_takesOn_24] at hF
    refine lv_iload hx hb d_Model_takesOn_24 (lv_at hl 6 rfl) ?_
    refine lv_aload_n hx hb d_Model_takesOn_26 rfl (lv_at hl 0 rfl) ?_
    refine r_get (v := .int (s0.1 0 0)) K hw i_Model sh_Model rfl 0 (by decide) w_1025 rfl rfl rfl d_Model_takesOn_27 ?_
    refine lv_icmp_ge (tgt := 117) hx hb d_Model_takesOn_30 (by decide) (fun c_2 => ?_) (fun c_2 => ?_)
    · replace hF := ifT hF c_2
      replace hF := sE1 hF
      subst hF
      exact r_vret K hw d_Model_takesOn_117
    · replace hF := ifF hF c_2
      refine lv_iload_n hx hb d_Model_takesOn_33 rfl (lv_at hl 2 rfl) ?_
      refine lv_iload hx hb d_Model_takesOn_34 (lv_at hl 6 rfl) ?_
      refine lv_ishr hx hb d_Model_takesOn_36 ?_
      refine lv_iconst (v := 1) hx hb d_Model_takesOn_37 (by decide) ?_
      refine lv_iand hx hb d_Model_takesOn_38 ?_
      refine lv_iconst (v := 1) hx hb d_Model_takesOn_39 (by decide) ?_
      refine lv_icmp_ne (tgt := 111) hx hb d_Model_takesOn_40 (by decide) (fun c_3 => ?_) (fun c_3 => ?_)
      · replace hF := ifT hF c_3
        exact q_Model_takesOn_111 r_Model_takesOn hr_Model_takesOn K (fun z0 zv1 zv2 zv3 zv4 zv5 zv6 => F_Model_takesOn_24 r_Model_takesOn n z0 zv1 zv2 zv3 zv4 zv5 zv6) ih _ _ _ _ _ _ _ _ _ _  hw (lv_sub hl [0, 1, 2, 3, 4, 5, 6] rfl) hF
      · replace hF := ifN hF c_3
        refine lv_aload_n hx hb d_Model_takesOn_43 rfl (lv_at hl 0 rfl) ?_
        refine lv_iload_n hx hb d_Model_takesOn_44 rfl (lv_at hl 1 rfl) ?_
        refine lv_iload hx hb d_Model_takesOn_45 (lv_at hl 6 rfl) ?_
        refine lv_iconst (v := 0) hx hb d_Model_takesOn_47 (by decide) ?_
        obtain ⟨s_4, h_s_4, hF⟩ := ob1E hF
        refine r_callVV (As := [.int v1, .int v6, .int (0 : Int32)]) (rest := []) K hw hl.1 (c_Model_begins (l := l) (D := D) (cA := cA) (ad := ad) (s0 := s0)   h_s_4) sh_Model rfl (tb_gV w_1230 w_1232 w_45 w_80 w_1233) a_Model_begins ⟨rfl, rfl, Nat.le_trans (Nat.le_of_ble_eq_true rfl) (rmTakes_big d).1, Nat.le_trans (Nat.le_of_ble_eq_true rfl) (rmTakes_big d).2⟩ rfl rfl (Nat.le_of_ble_eq_true rfl) d_Model_takesOn_48 (fun H locs hw => ?_)
        refine lv_aload_n hx hb d_Model_takesOn_51 rfl (lv_at hl 0 rfl) ?_
        refine lv_iload_n hx hb d_Model_takesOn_52 rfl (lv_at hl 3 rfl) ?_
        refine r_putI K hw i_Model t_Model t_Model_ok n_Model sh_Model rfl 33 (by decide) w_1058 rfl rfl rfl rfl rfl d_Model_takesOn_53 (fun s_5 f_s_5 H locs hw => ?_)
        replace hF := ltN hF f_s_5
        refine lv_aload_n hx hb d_Model_takesOn_56 rfl (lv_at hl 0 rfl) ?_
        refine lv_iload_n hx hb d_Model_takesOn_57 rfl (lv_at hl 1 rfl) ?_
        refine lv_iload hx hb d_Model_takesOn_58 (lv_at hl 6 rfl) ?_
        refine lv_bipush (v := 40) hx hb d_Model_takesOn_60 (by decide) ?_
        obtain ⟨s_6, h_s_6, hF⟩ := ob1E hF
        refine r_callVV (As := [.int v1, .int v6, .int (40 : Int32)]) (rest := []) K hw hl.1 (c_Model_goesOn (l := l) (D := D) (cA := cA) (ad := ad) (s0 := s_5)   h_s_6) sh_Model rfl (tb_gV w_1234 w_1236 w_46 w_80 w_1237) a_Model_goesOn ⟨rfl, rfl, Nat.le_trans (Nat.le_of_ble_eq_true rfl) (rmTakes_big d).1, Nat.le_trans (Nat.le_of_ble_eq_true rfl) (rmTakes_big d).2⟩ rfl rfl (Nat.le_of_ble_eq_true rfl) d_Model_takesOn_62 (fun H locs hw => ?_)
        refine lv_aload_n hx hb d_Model_takesOn_65 rfl (lv_at hl 0 rfl) ?_
        refine r_get (v := .int (s_6.1 0 32)) K hw i_Model sh_Model rfl 32 (by decide) w_1057 rfl rfl rfl d_Model_takesOn_66 ?_
        refine lv_if_le (tgt := 111) hx hb d_Model_takesOn_69 (by decide) (fun c_7 => ?_) (fun c_7 => ?_)
        · replace hF := ifT hF c_7
          exact q_Model_takesOn_111 r_Model_takesOn hr_Model_takesOn K (fun z0 zv1 zv2 zv3 zv4 zv5 zv6 => F_Model_takesOn_24 r_Model_takesOn n z0 zv1 zv2 zv3 zv4 zv5 zv6) ih _ _ _ _ _ _ _ _ _ _  hw (lv_sub hl [0, 1, 2, 3, 4, 5, 6] rfl) hF
        · replace hF := ifF hF c_7
          refine lv_aload_n hx hb d_Model_takesOn_72 rfl (lv_at hl 0 rfl) ?_
          refine lv_iload_n hx hb d_Model_takesOn_73 rfl (lv_at hl 1 rfl) ?_
          refine lv_iload_n hx hb d_Model_takesOn_74 rfl (lv_at hl 2 rfl) ?_
          refine lv_iconst (v := 1) hx hb d_Model_takesOn_75 (by decide) ?_
          refine lv_iload hx hb d_Model_takesOn_76 (lv_at hl 6 rfl) ?_
          refine lv_ishl hx hb d_Model_takesOn_78 ?_
          refine lv_iconst (v := -1) hx hb d_Model_takesOn_79 (by decide) ?_
          refine lv_ixor hx hb d_Model_takesOn_80 ?_
          refine lv_iand hx hb d_Model_takesOn_81 ?_
          refine lv_aload_n hx hb d_Model_takesOn_82 rfl (lv_at hl 0 rfl) ?_
          refine r_get (v := .int (s_6.1 0 33)) K hw i_Model sh_Model rfl 33 (by decide) w_1058 rfl rfl rfl d_Model_takesOn_83 ?_
          refine lv_iconst (v := 4) hx hb d_Model_takesOn_86 (by decide) ?_
          refine lv_iadd hx hb d_Model_takesOn_87 ?_
          refine lv_iconst (v := 0) hx hb d_Model_takesOn_88 (by decide) ?_
          refine lv_bipush (v := 24) hx hb d_Model_takesOn_89 (by decide) ?_
          refine r_callSI (As := [.int ((s_6.1 0 33) + (4 : Int32)), .int (0 : Int32), .int (24 : Int32)]) (rest := [.int (v2 &&& ((jshl (1 : Int32) v6) ^^^ (-1 : Int32))), .int v1, .ref (ad 0)]) K hw hl.1 (c_Model_within (l := l) (D := D) (cA := cA) (ad := ad) (s0 := s_6)   rfl) (tb_gS w_1196 w_1197 w_80 w_1198) a_Model_within ⟨rfl, rfl, Nat.le_trans (Nat.le_of_ble_eq_true rfl) (rmTakes_big d).1, Nat.le_trans (Nat.le_of_ble_eq_true rfl) (rmTakes_big d).2⟩ rfl rfl (Nat.le_of_ble_eq_true rfl) d_Model_takesOn_91 (fun H locs hw => ?_)
          refine lv_iload hx hb d_Model_takesOn_94 (lv_at hl 4 rfl) ?_
          refine lv_iconst (v := 1) hx hb d_Model_takesOn_96 (by decide) ?_
          refine lv_iadd hx hb d_Model_takesOn_97 ?_
          refine lv_bipush (v := 10) hx hb d_Model_takesOn_98 (by decide) ?_
          refine lv_iload hx hb d_Model_takesOn_100 (lv_at hl 5 rfl) ?_
          refine lv_imul hx hb d_Model_takesOn_102 ?_
          refine lv_iload hx hb d_Model_takesOn_103 (lv_at hl 6 rfl) ?_
          refine lv_iadd hx hb d_Model_takesOn_105 ?_
          refine lv_iconst (v := 1) hx hb d_Model_takesOn_106 (by decide) ?_
          refine lv_iadd hx hb d_Model_takesOn_107 ?_
          obtain ⟨s_8, h_s_8, hF⟩ := ob1E hF
          refine r_callVV (As := [.int v1, .int (v2 &&& ((jshl (1 : Int32) v6) ^^^ (-1 : Int32))), .int (F_Model_within ((s_6.1 0 33) + (4 : Int32)) (0 : Int32) (24 : Int32)), .int (v4 + (1 : Int32)), .int ((((10 : Int32) * v5) + v6) + (1 : Int32))]) (rest := []) K hw hl.1 (hr_Model_takesOn _ _ _ _ _ _ _  h_s_8) sh_Model rfl (tb_gV w_1307 w_1309 w_54 w_80 w_1310) a_Model_takesOn ⟨rfl, rfl, (rmTakes_step d).1, (rmTakes_step d).2 _ (Nat.le_of_ble_eq_true rfl)⟩ rfl rfl (Nat.le_of_ble_eq_true rfl) d_Model_takesOn_108 (fun H locs hw => ?_)
          exact q_Model_takesOn_111 r_Model_takesOn hr_Model_takesOn K (fun z0 zv1 zv2 zv3 zv4 zv5 zv6 => F_Model_takesOn_24 r_Model_takesOn n z0 zv1 zv2 zv3 zv4 zv5 zv6) ih _ _ _ _ _ _ _ _ _ _  hw (lv_sub hl [0, 1, 2, 3, 4, 5, 6] rfl) hF
noncomputable def F_Model_takesOn_21 (r_Model_takesOn : St → Int32 → Int32 → Int32 → Int32 → Int32 → Option St) (s0 : St) (v1 : Int32) (v2 : Int32) (v3 : Int32) (v4 : Int32) (v5 : Int32) : Option St := (F_Model_takesOn_24 r_Model_takesOn FU s0 v1 v2 v3 v4 v5 (0 : Int32))
set_option maxHeartbeats 4000000 in
set_option maxRecDepth 100000 in
theorem q_Model_takesOn_21 {d : Nat} (r_Model_takesOn : St → Int32 → Int32 → Int32 → Int32 → Int32 → Option St) (hr_Model_takesOn : ∀ (s0 τ : St) (v1 : Int32) (v2 : Int32) (v3 : Int32) (v4 : Int32) (v5 : Int32), r_Model_takesOn s0 v1 v2 v3 v4 v5 = some τ → MV l D cA ad shM y_Model_takesOn (wT y_Model_takesOn b_Model_takesOn 7 none) (rmTakes d) [.ref (ad 0), .int v1, .int v2, .int v3, .int v4, .int v5] s0 τ) (K : Fx p s m args meth c b_Model_takesOn 7 R_Model none)  : ∀ (H : Heap) (locs : List Loc) (ls : Array Slot) (s0 : St) (v1 : Int32) (v2 : Int32) (v3 : Int32) (v4 : Int32) (v5 : Int32), Wh D cA ad shM A s s0 H locs → lv_has ls 7 [(0, .ref (ad 0)), (1, .int v1), (2, .int v2), (3, .int v3), (4, .int v4), (5, .int v5)] → F_Model_takesOn_21 r_Model_takesOn s0 v1 v2 v3 v4 v5 = (some τ) → W p l e (rmTakes (d + 1)) s m args below meth c H locs 0 0 (MQ below (QcV D cA ad shM A τ) args s 0 0 A) (F0 m 21 ls []) := by
  have hx := K.1.1; have hb := K.1.2.1
  intro H locs ls s0 v1 v2 v3 v4 v5 hw hl hF
  unfold F_Model_takesOn_21 at hF
  refine lv_iconst (v := 0) hx hb d_Model_takesOn_21 (by decide) ?_
  refine lv_istore (lv' := [(6, .int (0 : Int32)), (0, .ref (ad 0)), (1, .int v1), (2, .int v2), (3, .int v3), (4, .int v4), (5, .int v5)]) hx hb d_Model_takesOn_22 hl (by decide) rfl (fun ls hl => ?_)
  exact q_Model_takesOn_24 r_Model_takesOn hr_Model_takesOn K FU _ _ _ _ _ _ _ _ _ _  hw (lv_sub hl [1, 2, 3, 4, 5, 6, 0] rfl) hF
noncomputable def F_Model_takesOn_0 (r_Model_takesOn : St → Int32 → Int32 → Int32 → Int32 → Int32 → Option St) (s0 : St) (v1 : Int32) (v2 : Int32) (v3 : Int32) (v4 : Int32) (v5 : Int32) : Option St := (if v4 ≤ (s0.1 0 42) then (F_Model_takesOn_21 r_Model_takesOn s0 v1 v2 v3 v4 v5) else (lt (up1 s0 0 42 v4) (fun s_9 => (lt (up1 s_9 0 43 v5) (fun s_10 => (F_Model_takesOn_21 r_Model_takesOn s_10 v1 v2 v3 v4 v5))))))
set_option maxHeartbeats 4000000 in
set_option maxRecDepth 100000 in
theorem q_Model_takesOn_0 {d : Nat} (r_Model_takesOn : St → Int32 → Int32 → Int32 → Int32 → Int32 → Option St) (hr_Model_takesOn : ∀ (s0 τ : St) (v1 : Int32) (v2 : Int32) (v3 : Int32) (v4 : Int32) (v5 : Int32), r_Model_takesOn s0 v1 v2 v3 v4 v5 = some τ → MV l D cA ad shM y_Model_takesOn (wT y_Model_takesOn b_Model_takesOn 7 none) (rmTakes d) [.ref (ad 0), .int v1, .int v2, .int v3, .int v4, .int v5] s0 τ) (K : Fx p s m args meth c b_Model_takesOn 7 R_Model none)  : ∀ (H : Heap) (locs : List Loc) (ls : Array Slot) (s0 : St) (v1 : Int32) (v2 : Int32) (v3 : Int32) (v4 : Int32) (v5 : Int32), Wh D cA ad shM A s s0 H locs → lv_has ls 7 [(0, .ref (ad 0)), (1, .int v1), (2, .int v2), (3, .int v3), (4, .int v4), (5, .int v5)] → F_Model_takesOn_0 r_Model_takesOn s0 v1 v2 v3 v4 v5 = (some τ) → W p l e (rmTakes (d + 1)) s m args below meth c H locs 0 0 (MQ below (QcV D cA ad shM A τ) args s 0 0 A) (F0 m 0 ls []) := by
  have hx := K.1.1; have hb := K.1.2.1
  intro H locs ls s0 v1 v2 v3 v4 v5 hw hl hF
  unfold F_Model_takesOn_0 at hF
  refine lv_iload hx hb d_Model_takesOn_0 (lv_at hl 4 rfl) ?_
  refine lv_aload_n hx hb d_Model_takesOn_2 rfl (lv_at hl 0 rfl) ?_
  refine r_get (v := .int (s0.1 0 42)) K hw i_Model sh_Model rfl 42 (by decide) w_1067 rfl rfl rfl d_Model_takesOn_3 ?_
  refine lv_icmp_le (tgt := 21) hx hb d_Model_takesOn_6 (by decide) (fun c_1 => ?_) (fun c_1 => ?_)
  · replace hF := ifT hF c_1
    exact q_Model_takesOn_21 r_Model_takesOn hr_Model_takesOn K _ _ _ _ _ _ _ _ _  hw (lv_sub hl [0, 1, 2, 3, 4, 5] rfl) hF
  · replace hF := ifF hF c_1
    refine lv_aload_n hx hb d_Model_takesOn_9 rfl (lv_at hl 0 rfl) ?_
    refine lv_iload hx hb d_Model_takesOn_10 (lv_at hl 4 rfl) ?_
    refine r_putI K hw i_Model t_Model t_Model_ok n_Model sh_Model rfl 42 (by decide) w_1067 rfl rfl rfl rfl rfl d_Model_takesOn_12 (fun s_9 f_s_9 H locs hw => ?_)
    replace hF := ltN hF f_s_9
    refine lv_aload_n hx hb d_Model_takesOn_15 rfl (lv_at hl 0 rfl) ?_
    refine lv_iload hx hb d_Model_takesOn_16 (lv_at hl 5 rfl) ?_
    refine r_putI K hw i_Model t_Model t_Model_ok n_Model sh_Model rfl 43 (by decide) w_1068 rfl rfl rfl rfl rfl d_Model_takesOn_18 (fun s_10 f_s_10 H locs hw => ?_)
    replace hF := ltN hF f_s_10
    exact q_Model_takesOn_21 r_Model_takesOn hr_Model_takesOn K _ _ _ _ _ _ _ _ _  hw (lv_sub hl [0, 1, 2, 3, 4, 5] rfl) hF
end S_Model_takesOn
noncomputable def GTakes : Nat → (St → Int32 → Int32 → Int32 → Int32 → Int32 → Option St)
  | 0 => fun _ _ _ _ _ _ => none
  | d + 1 => F_Model_takesOn_0 (GTakes d)
theorem cgTakes {l : Launch} {D : va_G} {cA : Nat → ClassId} {ad : Nat → Nat} : ∀ d : Nat, (∀ (s0 τ : St) (v1 : Int32) (v2 : Int32) (v3 : Int32) (v4 : Int32) (v5 : Int32), (GTakes d) s0 v1 v2 v3 v4 v5 = some τ → MV l D cA ad shM y_Model_takesOn (wT y_Model_takesOn b_Model_takesOn 7 none) (rmTakes d) [.ref (ad 0), .int v1, .int v2, .int v3, .int v4, .int v5] s0 τ) := by
  intro d
  induction d with
  | zero => exact fun s0 τ v1 v2 v3 v4 v5 h => absurd (show (none : Option St) = some τ from h) nofun
  | succ d ih =>
    have i0 := ih
    intro s0 τ v1 v2 v3 v4 v5 hF sz
    exact m_start (Qc := fun A => QcV D cA ad shM A τ) (by decide +kernel) w_1310 (Nat.le_of_ble_eq_true rfl) (fun p e s m below meth c ls K hl hw => q_Model_takesOn_0 (GTakes d) i0 K _ _ _ _ _ _ _ _ _ hw hl hF)
noncomputable abbrev F_Model_takesOn := (GTakes 8)
abbrev rm_Model_takesOn : Room := rmTakes 8
theorem c_Model_takesOn {l : Launch} {D : va_G} {cA : Nat → ClassId} {ad : Nat → Nat} {s0 τ : St} {v1 : Int32} {v2 : Int32} {v3 : Int32} {v4 : Int32} {v5 : Int32} (hF : F_Model_takesOn s0 v1 v2 v3 v4 v5 = some τ) : MV l D cA ad shM y_Model_takesOn (wT y_Model_takesOn b_Model_takesOn 7 none) rm_Model_takesOn [.ref (ad 0), .int v1, .int v2, .int v3, .int v4, .int v5] s0 τ := (cgTakes 8) _ _ _ _ _ _ _ hF

/-! Model.row(III)I -/
abbrev b_Model_row : ByteArray := prog_13_method_54_code
def y_Model_row : MethodName := ⟨R_Model, "row", "(III)I"⟩
theorem a_Model_row : y_Model_row.cls = R_Model ∧ y_Model_row.cls ≠ "java/lang/invoke/MethodHandle" ∧ y_Model_row.cls ≠ "java/lang/invoke/VarHandle" ∧ (parseMethodDescriptor y_Model_row.desc).map (fun d => d.parameters.length) = some 3 := by decide +kernel
abbrev rm_Model_row : Room := { frames := 15, cells := 0, slots := 0, locals := 387 }
theorem w_1304 : Cond.methodLink R_Model 254 y_Model_ones ∈ TB := tb_in 1304 (by decide +kernel) (by decide +kernel)
theorem w_1305 : Cond.static y_Model_ones ∈ TB := tb_in 1305 (by decide +kernel) (by decide +kernel)
theorem w_1303 : Cond.code y_Model_row b_Model_row 5 (some .int) ∈ TB := tb_in 1303 (by decide +kernel) (by decide +kernel)
theorem d_Model_row_0 : decode b_Model_row 0 = .ok (.aload_n 0, 1) := by decide +kernel
theorem d_Model_row_1 : decode b_Model_row 1 = .ok (.iload_n 1, 1) := by decide +kernel
theorem d_Model_row_2 : decode b_Model_row 2 = .ok (.invokevirtual 82, 3) := by decide +kernel
theorem d_Model_row_5 : decode b_Model_row 5 = .ok (.ifCond .ne 6, 3) := by decide +kernel
theorem d_Model_row_8 : decode b_Model_row 8 = .ok (.bipush (-5), 2) := by decide +kernel
theorem d_Model_row_10 : decode b_Model_row 10 = .ok (.ireturn, 1) := by decide +kernel
theorem d_Model_row_11 : decode b_Model_row 11 = .ok (.iload_n 2, 1) := by decide +kernel
theorem d_Model_row_12 : decode b_Model_row 12 = .ok (.iconst 0, 1) := by decide +kernel
theorem d_Model_row_13 : decode b_Model_row 13 = .ok (.iconst 1, 1) := by decide +kernel
theorem d_Model_row_14 : decode b_Model_row 14 = .ok (.aload_n 0, 1) := by decide +kernel
theorem d_Model_row_15 : decode b_Model_row 15 = .ok (.getfield 75, 3) := by decide +kernel
theorem d_Model_row_18 : decode b_Model_row 18 = .ok (.ishl, 1) := by decide +kernel
theorem d_Model_row_19 : decode b_Model_row 19 = .ok (.iconst 1, 1) := by decide +kernel
theorem d_Model_row_20 : decode b_Model_row 20 = .ok (.isub, 1) := by decide +kernel
theorem d_Model_row_21 : decode b_Model_row 21 = .ok (.invokestatic 78, 3) := by decide +kernel
theorem d_Model_row_24 : decode b_Model_row 24 = .ok (.ifCond .eq 32, 3) := by decide +kernel
theorem d_Model_row_27 : decode b_Model_row 27 = .ok (.iload_n 2, 1) := by decide +kernel
theorem d_Model_row_28 : decode b_Model_row 28 = .ok (.invokestatic 254, 3) := by decide +kernel
theorem d_Model_row_31 : decode b_Model_row 31 = .ok (.iconst 4, 1) := by decide +kernel
theorem d_Model_row_32 : decode b_Model_row 32 = .ok (.if_icmp .gt 24, 3) := by decide +kernel
theorem d_Model_row_35 : decode b_Model_row 35 = .ok (.iload_n 2, 1) := by decide +kernel
theorem d_Model_row_36 : decode b_Model_row 36 = .ok (.iload_n 1, 1) := by decide +kernel
theorem d_Model_row_37 : decode b_Model_row 37 = .ok (.ishr, 1) := by decide +kernel
theorem d_Model_row_38 : decode b_Model_row 38 = .ok (.iconst 1, 1) := by decide +kernel
theorem d_Model_row_39 : decode b_Model_row 39 = .ok (.iand, 1) := by decide +kernel
theorem d_Model_row_40 : decode b_Model_row 40 = .ok (.ifCond .ne 16, 3) := by decide +kernel
theorem d_Model_row_43 : decode b_Model_row 43 = .ok (.iload_n 3, 1) := by decide +kernel
theorem d_Model_row_44 : decode b_Model_row 44 = .ok (.iconst 0, 1) := by decide +kernel
theorem d_Model_row_45 : decode b_Model_row 45 = .ok (.iconst 1, 1) := by decide +kernel
theorem d_Model_row_46 : decode b_Model_row 46 = .ok (.invokestatic 78, 3) := by decide +kernel
theorem d_Model_row_49 : decode b_Model_row 49 = .ok (.ifCond .eq 7, 3) := by decide +kernel
theorem d_Model_row_52 : decode b_Model_row 52 = .ok (.iconst 1, 1) := by decide +kernel
theorem d_Model_row_53 : decode b_Model_row 53 = .ok (.goto 4, 3) := by decide +kernel
theorem d_Model_row_56 : decode b_Model_row 56 = .ok (.iconst 0, 1) := by decide +kernel
theorem d_Model_row_57 : decode b_Model_row 57 = .ok (.istore 4, 2) := by decide +kernel
theorem d_Model_row_59 : decode b_Model_row 59 = .ok (.iload 4, 2) := by decide +kernel
theorem d_Model_row_61 : decode b_Model_row 61 = .ok (.ifCond .ne 6, 3) := by decide +kernel
theorem d_Model_row_64 : decode b_Model_row 64 = .ok (.bipush (-7), 2) := by decide +kernel
theorem d_Model_row_66 : decode b_Model_row 66 = .ok (.ireturn, 1) := by decide +kernel
theorem d_Model_row_67 : decode b_Model_row 67 = .ok (.aload_n 0, 1) := by decide +kernel
theorem d_Model_row_68 : decode b_Model_row 68 = .ok (.iconst 0, 1) := by decide +kernel
theorem d_Model_row_69 : decode b_Model_row 69 = .ok (.putfield 244, 3) := by decide +kernel
theorem d_Model_row_72 : decode b_Model_row 72 = .ok (.aload_n 0, 1) := by decide +kernel
theorem d_Model_row_73 : decode b_Model_row 73 = .ok (.iconst 0, 1) := by decide +kernel
theorem d_Model_row_74 : decode b_Model_row 74 = .ok (.putfield 247, 3) := by decide +kernel
theorem d_Model_row_77 : decode b_Model_row 77 = .ok (.aload_n 0, 1) := by decide +kernel
theorem d_Model_row_78 : decode b_Model_row 78 = .ok (.iload_n 1, 1) := by decide +kernel
theorem d_Model_row_79 : decode b_Model_row 79 = .ok (.iload_n 2, 1) := by decide +kernel
theorem d_Model_row_80 : decode b_Model_row 80 = .ok (.aload_n 0, 1) := by decide +kernel
theorem d_Model_row_81 : decode b_Model_row 81 = .ok (.getfield 19, 3) := by decide +kernel
theorem d_Model_row_84 : decode b_Model_row 84 = .ok (.iload_n 1, 1) := by decide +kernel
theorem d_Model_row_85 : decode b_Model_row 85 = .ok (.iaload, 1) := by decide +kernel
theorem d_Model_row_86 : decode b_Model_row 86 = .ok (.iconst 0, 1) := by decide +kernel
theorem d_Model_row_87 : decode b_Model_row 87 = .ok (.iconst 0, 1) := by decide +kernel
theorem d_Model_row_88 : decode b_Model_row 88 = .ok (.invokevirtual 250, 3) := by decide +kernel
theorem d_Model_row_91 : decode b_Model_row 91 = .ok (.iload_n 3, 1) := by decide +kernel
theorem d_Model_row_92 : decode b_Model_row 92 = .ok (.ifCond .ne 10, 3) := by decide +kernel
theorem d_Model_row_95 : decode b_Model_row 95 = .ok (.aload_n 0, 1) := by decide +kernel
theorem d_Model_row_96 : decode b_Model_row 96 = .ok (.getfield 244, 3) := by decide +kernel
theorem d_Model_row_99 : decode b_Model_row 99 = .ok (.goto 7, 3) := by decide +kernel
theorem d_Model_row_102 : decode b_Model_row 102 = .ok (.aload_n 0, 1) := by decide +kernel
theorem d_Model_row_103 : decode b_Model_row 103 = .ok (.getfield 247, 3) := by decide +kernel
theorem d_Model_row_106 : decode b_Model_row 106 = .ok (.ireturn, 1) := by decide +kernel
section S_Model_row
variable {p : Program} {l : Launch} {e : Env} {s : State} {m : MethodId} {args : Array Value} {below : List Frame} {meth : Method} {c : Code} {D : va_G} {cA : Nat → ClassId} {ad : Nat → Nat} {nC : Nat} {A : Nat → Prop} {r : Int32} {τ : St}
noncomputable def F_Model_row_57 (s0 : St) (v1 : Int32) (v2 : Int32) (v3 : Int32) (t0 : Int32) : Option (Int32 × St) := (if ¬ t0 = 0 then (lt (up1 s0 0 42 (0 : Int32)) (fun s_5 => (lt (up1 s_5 0 43 (0 : Int32)) (fun s_6 => (if inB v1 6 = true then (ob1 (F_Model_takesOn s_6 v1 v2 (s_6.1 4 v1.toNatClampNeg) (0 : Int32) (0 : Int32)) (fun s_8 => (if ¬ v3 = 0 then (some ((s_8.1 0 43), s_8)) else (some ((s_8.1 0 42), s_8))))) else none))))) else (some ((-7 : Int32), s0)))
set_option maxHeartbeats 4000000 in
set_option maxRecDepth 100000 in
theorem q_Model_row_57 (K : Fx p s m args meth c b_Model_row 5 R_Model (some .int))  : ∀ (H : Heap) (locs : List Loc) (ls : Array Slot) (s0 : St) (v1 : Int32) (v2 : Int32) (v3 : Int32) (t0 : Int32), Wh D cA ad shM A s s0 H locs → lv_has ls 5 [(0, .ref (ad 0)), (1, .int v1), (2, .int v2), (3, .int v3)] → F_Model_row_57 s0 v1 v2 v3 t0 = (some (r, τ)) → W p l e rm_Model_row s m args below meth c H locs 0 0 (MQ below (QcI D cA ad shM A r τ) args s 0 0 A) (F0 m 57 ls [.int t0]) := by
  have hx := K.1.1; have hb := K.1.2.1
  intro H locs ls s0 v1 v2 v3 t0 hw hl hF
  unfold F_Model_row_57 at hF
  refine lv_istore (lv' := [(4, .int t0), (0, .ref (ad 0)), (1, .int v1), (2, .int v2), (3, .int v3)]) hx hb d_Model_row_57 hl (by decide) rfl (fun ls hl => ?_)
  refine lv_iload hx hb d_Model_row_59 (lv_at hl 0 rfl) ?_
  refine lv_if_ne (tgt := 67) hx hb d_Model_row_61 (by decide) (fun c_4 => ?_) (fun c_4 => ?_)
  · replace hF := ifT hF c_4
    refine lv_aload_n hx hb d_Model_row_67 rfl (lv_at hl 1 rfl) ?_
    refine lv_iconst (v := 0) hx hb d_Model_row_68 (by decide) ?_
    refine r_putI K hw i_Model t_Model t_Model_ok n_Model sh_Model rfl 42 (by decide) w_1067 rfl rfl rfl rfl rfl d_Model_row_69 (fun s_5 f_s_5 H locs hw => ?_)
    replace hF := ltN hF f_s_5
    refine lv_aload_n hx hb d_Model_row_72 rfl (lv_at hl 1 rfl) ?_
    refine lv_iconst (v := 0) hx hb d_Model_row_73 (by decide) ?_
    refine r_putI K hw i_Model t_Model t_Model_ok n_Model sh_Model rfl 43 (by decide) w_1068 rfl rfl rfl rfl rfl d_Model_row_74 (fun s_6 f_s_6 H locs hw => ?_)
    replace hF := ltN hF f_s_6
    refine lv_aload_n hx hb d_Model_row_77 rfl (lv_at hl 1 rfl) ?_
    refine lv_iload_n hx hb d_Model_row_78 rfl (lv_at hl 2 rfl) ?_
    refine lv_iload_n hx hb d_Model_row_79 rfl (lv_at hl 3 rfl) ?_
    refine lv_aload_n hx hb d_Model_row_80 rfl (lv_at hl 1 rfl) ?_
    refine r_get (v := .ref (ad 4)) K hw i_Model sh_Model rfl 4 (by decide) w_1029 rfl rfl rfl d_Model_row_81 ?_
    refine lv_iload_n hx hb d_Model_row_84 rfl (lv_at hl 2 rfl) ?_
    obtain ⟨g_7, hF⟩ := ifG hF
    refine r_iald (k := v1.toNatClampNeg) K hw (show shM[4]? = some (.inr (.inl 6)) from rfl) rfl (inB_vp g_7) d_Model_row_85 ?_
    refine lv_iconst (v := 0) hx hb d_Model_row_86 (by decide) ?_
    refine lv_iconst (v := 0) hx hb d_Model_row_87 (by decide) ?_
    obtain ⟨s_8, h_s_8, hF⟩ := ob1E hF
    refine r_callVV (As := [.int v1, .int v2, .int (s_6.1 4 v1.toNatClampNeg), .int (0 : Int32), .int (0 : Int32)]) (rest := []) K hw hl.1 (c_Model_takesOn (l := l) (D := D) (cA := cA) (ad := ad) (s0 := s_6)   h_s_8) sh_Model rfl (tb_gV w_1307 w_1309 w_54 w_80 w_1310) a_Model_takesOn ⟨rfl, rfl, Nat.le_of_ble_eq_true rfl, Nat.le_of_ble_eq_true rfl⟩ rfl rfl (Nat.le_of_ble_eq_true rfl) d_Model_row_88 (fun H locs hw => ?_)
    refine lv_iload_n hx hb d_Model_row_91 rfl (lv_at hl 4 rfl) ?_
    refine lv_if_ne (tgt := 102) hx hb d_Model_row_92 (by decide) (fun c_9 => ?_) (fun c_9 => ?_)
    · replace hF := ifT hF c_9
      refine lv_aload_n hx hb d_Model_row_102 rfl (lv_at hl 1 rfl) ?_
      refine r_get (v := .int (s_8.1 0 43)) K hw i_Model sh_Model rfl 43 (by decide) w_1068 rfl rfl rfl d_Model_row_103 ?_
      obtain ⟨hF, hG⟩ := sE2 hF
      subst hF
      subst hG
      exact r_iret K hw d_Model_row_106
    · replace hF := ifN hF c_9
      refine lv_aload_n hx hb d_Model_row_95 rfl (lv_at hl 1 rfl) ?_
      refine r_get (v := .int (s_8.1 0 42)) K hw i_Model sh_Model rfl 42 (by decide) w_1067 rfl rfl rfl d_Model_row_96 ?_
      refine lv_goto (tgt := 106) hx hb d_Model_row_99 (by decide) ?_
      obtain ⟨hF, hG⟩ := sE2 hF
      subst hF
      subst hG
      exact r_iret K hw d_Model_row_106
  · replace hF := ifN hF c_4
    refine lv_bipush (v := -7) hx hb d_Model_row_64 (by decide) ?_
    obtain ⟨hF, hG⟩ := sE2 hF
    subst hF
    subst hG
    exact r_iret K hw d_Model_row_66
noncomputable def F_Model_row_56 (s0 : St) (v1 : Int32) (v2 : Int32) (v3 : Int32) : Option (Int32 × St) := (F_Model_row_57 s0 v1 v2 v3 (0 : Int32))
set_option maxHeartbeats 4000000 in
set_option maxRecDepth 100000 in
theorem q_Model_row_56 (K : Fx p s m args meth c b_Model_row 5 R_Model (some .int))  : ∀ (H : Heap) (locs : List Loc) (ls : Array Slot) (s0 : St) (v1 : Int32) (v2 : Int32) (v3 : Int32), Wh D cA ad shM A s s0 H locs → lv_has ls 5 [(0, .ref (ad 0)), (1, .int v1), (2, .int v2), (3, .int v3)] → F_Model_row_56 s0 v1 v2 v3 = (some (r, τ)) → W p l e rm_Model_row s m args below meth c H locs 0 0 (MQ below (QcI D cA ad shM A r τ) args s 0 0 A) (F0 m 56 ls []) := by
  have hx := K.1.1; have hb := K.1.2.1
  intro H locs ls s0 v1 v2 v3 hw hl hF
  unfold F_Model_row_56 at hF
  refine lv_iconst (v := 0) hx hb d_Model_row_56 (by decide) ?_
  exact q_Model_row_57 K _ _ _ _ _ _ _ _  hw (lv_sub hl [0, 1, 2, 3] rfl) hF
noncomputable def F_Model_row_0 (s0 : St) (v1 : Int32) (v2 : Int32) (v3 : Int32) : Option (Int32 × St) := (ob1 (F_Model_isArm s0 v1) (fun r_1 => (if ¬ r_1 = 0 then (if (F_Model_in v2 (0 : Int32) ((jshl (1 : Int32) (s0.1 0 0)) - (1 : Int32))) = 0 then (F_Model_row_56 s0 v1 v2 v3) else (ob1 (F_Model_ones v2) (fun r_10 => (if (4 : Int32) < r_10 then (F_Model_row_56 s0 v1 v2 v3) else (if ¬ ((jshr v2 v1) &&& (1 : Int32)) = 0 then (F_Model_row_56 s0 v1 v2 v3) else (if (F_Model_in v3 (0 : Int32) (1 : Int32)) = 0 then (F_Model_row_56 s0 v1 v2 v3) else (F_Model_row_57 s0 v1 v2 v3 (1 : Int32)))))))) else (some ((-5 : Int32), s0)))))
set_option maxHeartbeats 4000000 in
set_option maxRecDepth 100000 in
theorem q_Model_row_0 (K : Fx p s m args meth c b_Model_row 5 R_Model (some .int))  : ∀ (H : Heap) (locs : List Loc) (ls : Array Slot) (s0 : St) (v1 : Int32) (v2 : Int32) (v3 : Int32), Wh D cA ad shM A s s0 H locs → lv_has ls 5 [(0, .ref (ad 0)), (1, .int v1), (2, .int v2), (3, .int v3)] → F_Model_row_0 s0 v1 v2 v3 = (some (r, τ)) → W p l e rm_Model_row s m args below meth c H locs 0 0 (MQ below (QcI D cA ad shM A r τ) args s 0 0 A) (F0 m 0 ls []) := by
  have hx := K.1.1; have hb := K.1.2.1
  intro H locs ls s0 v1 v2 v3 hw hl hF
  unfold F_Model_row_0 at hF
  refine lv_aload_n hx hb d_Model_row_0 rfl (lv_at hl 0 rfl) ?_
  refine lv_iload_n hx hb d_Model_row_1 rfl (lv_at hl 1 rfl) ?_
  obtain ⟨r_1, h_r_1, hF⟩ := ob1E hF
  refine r_callVI (As := [.int v1]) (rest := []) K hw hl.1 (c_Model_isArm (l := l) (D := D) (cA := cA) (ad := ad) (s0 := s0)   h_r_1) sh_Model rfl (tb_gV w_1181 w_1183 w_39 w_80 w_1184) a_Model_isArm ⟨rfl, rfl, Nat.le_of_ble_eq_true rfl, Nat.le_of_ble_eq_true rfl⟩ rfl rfl (Nat.le_of_ble_eq_true rfl) d_Model_row_2 (fun H locs hw => ?_)
  refine lv_if_ne (tgt := 11) hx hb d_Model_row_5 (by decide) (fun c_2 => ?_) (fun c_2 => ?_)
  · replace hF := ifT hF c_2
    refine lv_iload_n hx hb d_Model_row_11 rfl (lv_at hl 2 rfl) ?_
    refine lv_iconst (v := 0) hx hb d_Model_row_12 (by decide) ?_
    refine lv_iconst (v := 1) hx hb d_Model_row_13 (by decide) ?_
    refine lv_aload_n hx hb d_Model_row_14 rfl (lv_at hl 0 rfl) ?_
    refine r_get (v := .int (s0.1 0 0)) K hw i_Model sh_Model rfl 0 (by decide) w_1025 rfl rfl rfl d_Model_row_15 ?_
    refine lv_ishl hx hb d_Model_row_18 ?_
    refine lv_iconst (v := 1) hx hb d_Model_row_19 (by decide) ?_
    refine lv_isub hx hb d_Model_row_20 ?_
    refine r_callSI (As := [.int v2, .int (0 : Int32), .int ((jshl (1 : Int32) (s0.1 0 0)) - (1 : Int32))]) (rest := []) K hw hl.1 (c_Model_in (l := l) (D := D) (cA := cA) (ad := ad) (s0 := s0)   rfl) (tb_gS w_986 w_987 w_80 w_988) a_Model_in ⟨rfl, rfl, Nat.le_of_ble_eq_true rfl, Nat.le_of_ble_eq_true rfl⟩ rfl rfl (Nat.le_of_ble_eq_true rfl) d_Model_row_21 (fun H locs hw => ?_)
    refine lv_if_eq (tgt := 56) hx hb d_Model_row_24 (by decide) (fun c_3 => ?_) (fun c_3 => ?_)
    · replace hF := ifT hF c_3
      exact q_Model_row_56 K _ _ _ _ _ _ _  hw (lv_sub hl [0, 1, 2, 3] rfl) hF
    · replace hF := ifF hF c_3
      refine lv_iload_n hx hb d_Model_row_27 rfl (lv_at hl 2 rfl) ?_
      obtain ⟨r_10, h_r_10, hF⟩ := ob1E hF
      refine r_callSI (As := [.int v2]) (rest := []) K hw hl.1 (c_Model_ones (l := l) (D := D) (cA := cA) (ad := ad) (s0 := s0)   h_r_10) (tb_gS w_1304 w_1305 w_80 w_1306) a_Model_ones ⟨rfl, rfl, Nat.le_of_ble_eq_true rfl, Nat.le_of_ble_eq_true rfl⟩ rfl rfl (Nat.le_of_ble_eq_true rfl) d_Model_row_28 (fun H locs hw => ?_)
      refine lv_iconst (v := 4) hx hb d_Model_row_31 (by decide) ?_
      refine lv_icmp_gt (tgt := 56) hx hb d_Model_row_32 (by decide) (fun c_11 => ?_) (fun c_11 => ?_)
      · replace hF := ifT hF c_11
        exact q_Model_row_56 K _ _ _ _ _ _ _  hw (lv_sub hl [0, 1, 2, 3] rfl) hF
      · replace hF := ifF hF c_11
        refine lv_iload_n hx hb d_Model_row_35 rfl (lv_at hl 2 rfl) ?_
        refine lv_iload_n hx hb d_Model_row_36 rfl (lv_at hl 1 rfl) ?_
        refine lv_ishr hx hb d_Model_row_37 ?_
        refine lv_iconst (v := 1) hx hb d_Model_row_38 (by decide) ?_
        refine lv_iand hx hb d_Model_row_39 ?_
        refine lv_if_ne (tgt := 56) hx hb d_Model_row_40 (by decide) (fun c_12 => ?_) (fun c_12 => ?_)
        · replace hF := ifT hF c_12
          exact q_Model_row_56 K _ _ _ _ _ _ _  hw (lv_sub hl [0, 1, 2, 3] rfl) hF
        · replace hF := ifN hF c_12
          refine lv_iload_n hx hb d_Model_row_43 rfl (lv_at hl 3 rfl) ?_
          refine lv_iconst (v := 0) hx hb d_Model_row_44 (by decide) ?_
          refine lv_iconst (v := 1) hx hb d_Model_row_45 (by decide) ?_
          refine r_callSI (As := [.int v3, .int (0 : Int32), .int (1 : Int32)]) (rest := []) K hw hl.1 (c_Model_in (l := l) (D := D) (cA := cA) (ad := ad) (s0 := s0)   rfl) (tb_gS w_986 w_987 w_80 w_988) a_Model_in ⟨rfl, rfl, Nat.le_of_ble_eq_true rfl, Nat.le_of_ble_eq_true rfl⟩ rfl rfl (Nat.le_of_ble_eq_true rfl) d_Model_row_46 (fun H locs hw => ?_)
          refine lv_if_eq (tgt := 56) hx hb d_Model_row_49 (by decide) (fun c_13 => ?_) (fun c_13 => ?_)
          · replace hF := ifT hF c_13
            exact q_Model_row_56 K _ _ _ _ _ _ _  hw (lv_sub hl [0, 1, 2, 3] rfl) hF
          · replace hF := ifF hF c_13
            refine lv_iconst (v := 1) hx hb d_Model_row_52 (by decide) ?_
            refine lv_goto (tgt := 57) hx hb d_Model_row_53 (by decide) ?_
            exact q_Model_row_57 K _ _ _ _ _ _ _ _  hw (lv_sub hl [0, 1, 2, 3] rfl) hF
  · replace hF := ifN hF c_2
    refine lv_bipush (v := -5) hx hb d_Model_row_8 (by decide) ?_
    obtain ⟨hF, hG⟩ := sE2 hF
    subst hF
    subst hG
    exact r_iret K hw d_Model_row_10
end S_Model_row
noncomputable abbrev F_Model_row := F_Model_row_0
theorem c_Model_row {l : Launch} {D : va_G} {cA : Nat → ClassId} {ad : Nat → Nat} {s0 τ : St} {r : Int32} {v1 : Int32} {v2 : Int32} {v3 : Int32}  (hF : F_Model_row s0 v1 v2 v3 = (some (r, τ))) : MI l D cA ad shM y_Model_row (wT y_Model_row b_Model_row 5 (some .int)) rm_Model_row [.ref (ad 0), .int v1, .int v2, .int v3] s0 r τ := fun sz => m_start (Qc := fun A => QcI D cA ad shM A r τ) (by decide +kernel) w_1303 (Nat.le_of_ble_eq_true rfl) (fun p e s m below meth c ls K hl hw => q_Model_row_0 K _ _ _ _ _ _ _  hw hl hF)

/-! Model.beatenBy(I)I -/
abbrev b_Model_beatenBy : ByteArray := prog_13_method_55_code
def y_Model_beatenBy : MethodName := ⟨R_Model, "beatenBy", "(I)I"⟩
theorem a_Model_beatenBy : y_Model_beatenBy.cls = R_Model ∧ y_Model_beatenBy.cls ≠ "java/lang/invoke/MethodHandle" ∧ y_Model_beatenBy.cls ≠ "java/lang/invoke/VarHandle" ∧ (parseMethodDescriptor y_Model_beatenBy.desc).map (fun d => d.parameters.length) = some 1 := by decide +kernel
abbrev rm_Model_beatenBy : Room := { frames := 8, cells := 0, slots := 0, locals := 197 }
theorem w_1319 : Cond.methodLink R_Model 257 y_Model_winsBy ∈ TB := tb_in 1319 (by decide +kernel) (by decide +kernel)
theorem w_1321 : Cond.instanceMethod y_Model_winsBy ∈ TB := tb_in 1321 (by decide +kernel) (by decide +kernel)
theorem w_56 : Cond.selects R_Model y_Model_winsBy y_Model_winsBy ∈ TB := tb_in 56 (by decide +kernel) (by decide +kernel)
theorem w_1318 : Cond.code y_Model_beatenBy b_Model_beatenBy 4 (some .int) ∈ TB := tb_in 1318 (by decide +kernel) (by decide +kernel)
theorem d_Model_beatenBy_0 : decode b_Model_beatenBy 0 = .ok (.iconst 0, 1) := by decide +kernel
theorem d_Model_beatenBy_1 : decode b_Model_beatenBy 1 = .ok (.istore_n 2, 1) := by decide +kernel
theorem d_Model_beatenBy_2 : decode b_Model_beatenBy 2 = .ok (.iconst 0, 1) := by decide +kernel
theorem d_Model_beatenBy_3 : decode b_Model_beatenBy 3 = .ok (.istore_n 3, 1) := by decide +kernel
theorem d_Model_beatenBy_4 : decode b_Model_beatenBy 4 = .ok (.iload_n 3, 1) := by decide +kernel
theorem d_Model_beatenBy_5 : decode b_Model_beatenBy 5 = .ok (.aload_n 0, 1) := by decide +kernel
theorem d_Model_beatenBy_6 : decode b_Model_beatenBy 6 = .ok (.getfield 75, 3) := by decide +kernel
theorem d_Model_beatenBy_9 : decode b_Model_beatenBy 9 = .ok (.if_icmp .ge 33, 3) := by decide +kernel
theorem d_Model_beatenBy_12 : decode b_Model_beatenBy 12 = .ok (.iload_n 2, 1) := by decide +kernel
theorem d_Model_beatenBy_13 : decode b_Model_beatenBy 13 = .ok (.iload_n 3, 1) := by decide +kernel
theorem d_Model_beatenBy_14 : decode b_Model_beatenBy 14 = .ok (.iload_n 1, 1) := by decide +kernel
theorem d_Model_beatenBy_15 : decode b_Model_beatenBy 15 = .ok (.if_icmp .eq 18, 3) := by decide +kernel
theorem d_Model_beatenBy_18 : decode b_Model_beatenBy 18 = .ok (.aload_n 0, 1) := by decide +kernel
theorem d_Model_beatenBy_19 : decode b_Model_beatenBy 19 = .ok (.iload_n 1, 1) := by decide +kernel
theorem d_Model_beatenBy_20 : decode b_Model_beatenBy 20 = .ok (.iload_n 3, 1) := by decide +kernel
theorem d_Model_beatenBy_21 : decode b_Model_beatenBy 21 = .ok (.invokevirtual 257, 3) := by decide +kernel
theorem d_Model_beatenBy_24 : decode b_Model_beatenBy 24 = .ok (.ifCond .eq 9, 3) := by decide +kernel
theorem d_Model_beatenBy_27 : decode b_Model_beatenBy 27 = .ok (.iconst 1, 1) := by decide +kernel
theorem d_Model_beatenBy_28 : decode b_Model_beatenBy 28 = .ok (.iload_n 3, 1) := by decide +kernel
theorem d_Model_beatenBy_29 : decode b_Model_beatenBy 29 = .ok (.ishl, 1) := by decide +kernel
theorem d_Model_beatenBy_30 : decode b_Model_beatenBy 30 = .ok (.goto 4, 3) := by decide +kernel
theorem d_Model_beatenBy_33 : decode b_Model_beatenBy 33 = .ok (.iconst 0, 1) := by decide +kernel
theorem d_Model_beatenBy_34 : decode b_Model_beatenBy 34 = .ok (.ior, 1) := by decide +kernel
theorem d_Model_beatenBy_35 : decode b_Model_beatenBy 35 = .ok (.istore_n 2, 1) := by decide +kernel
theorem d_Model_beatenBy_36 : decode b_Model_beatenBy 36 = .ok (.iinc 3 1, 3) := by decide +kernel
theorem d_Model_beatenBy_39 : decode b_Model_beatenBy 39 = .ok (.goto (-35), 3) := by decide +kernel
theorem d_Model_beatenBy_42 : decode b_Model_beatenBy 42 = .ok (.iload_n 2, 1) := by decide +kernel
theorem d_Model_beatenBy_43 : decode b_Model_beatenBy 43 = .ok (.ireturn, 1) := by decide +kernel
section S_Model_beatenBy
variable {p : Program} {l : Launch} {e : Env} {s : State} {m : MethodId} {args : Array Value} {below : List Frame} {meth : Method} {c : Code} {D : va_G} {cA : Nat → ClassId} {ad : Nat → Nat} {nC : Nat} {A : Nat → Prop} {r : Int32} {τ : St}
noncomputable def F_Model_beatenBy_34 (k4 : (St → Int32 → Int32 → Int32 → Option (Int32 × St))) (s0 : St) (v1 : Int32) (v3 : Int32) (t0 : Int32) (t1 : Int32) : Option (Int32 × St) := (k4 s0 v1 (t0 ||| t1) (v3 + 1))
set_option maxHeartbeats 4000000 in
set_option maxRecDepth 100000 in
theorem q_Model_beatenBy_34 (K : Fx p s m args meth c b_Model_beatenBy 4 R_Model (some .int)) (k4 : (St → Int32 → Int32 → Int32 → Option (Int32 × St))) (hk4 : ∀ (H : Heap) (locs : List Loc) (ls : Array Slot) (s0 : St) (v1 : Int32) (v2 : Int32) (v3 : Int32), Wh D cA ad shM A s s0 H locs → lv_has ls 4 [(0, .ref (ad 0)), (1, .int v1), (2, .int v2), (3, .int v3)] → k4 s0 v1 v2 v3 = (some (r, τ)) → W p l e rm_Model_beatenBy s m args below meth c H locs 0 0 (MQ below (QcI D cA ad shM A r τ) args s 0 0 A) (F0 m 4 ls [])) : ∀ (H : Heap) (locs : List Loc) (ls : Array Slot) (s0 : St) (v1 : Int32) (v3 : Int32) (t0 : Int32) (t1 : Int32), Wh D cA ad shM A s s0 H locs → lv_has ls 4 [(0, .ref (ad 0)), (1, .int v1), (3, .int v3)] → F_Model_beatenBy_34 k4 s0 v1 v3 t0 t1 = (some (r, τ)) → W p l e rm_Model_beatenBy s m args below meth c H locs 0 0 (MQ below (QcI D cA ad shM A r τ) args s 0 0 A) (F0 m 34 ls [.int t1, .int t0]) := by
  have hx := K.1.1; have hb := K.1.2.1
  intro H locs ls s0 v1 v3 t0 t1 hw hl hF
  unfold F_Model_beatenBy_34 at hF
  refine lv_ior hx hb d_Model_beatenBy_34 ?_
  refine lv_istore_n (lv' := [(2, .int (t0 ||| t1)), (0, .ref (ad 0)), (1, .int v1), (3, .int v3)]) hx hb d_Model_beatenBy_35 rfl hl (by decide) rfl (fun ls hl => ?_)
  refine lv_iinc (v := (v3 + 1)) (lv' := [(3, .int (v3 + 1)), (2, .int (t0 ||| t1)), (0, .ref (ad 0)), (1, .int v1)]) hx hb d_Model_beatenBy_36 hl (k := 3) rfl rfl (by decide) rfl (fun ls hl => ?_)
  refine lv_goto (tgt := 4) hx hb d_Model_beatenBy_39 (by decide) ?_
  exact hk4 _ _ _ _ _ _ _  hw (lv_sub hl [2, 3, 1, 0] rfl) hF
noncomputable def F_Model_beatenBy_33 (k4 : (St → Int32 → Int32 → Int32 → Option (Int32 × St))) (s0 : St) (v1 : Int32) (v3 : Int32) (t0 : Int32) : Option (Int32 × St) := (F_Model_beatenBy_34 k4 s0 v1 v3 t0 (0 : Int32))
set_option maxHeartbeats 4000000 in
set_option maxRecDepth 100000 in
theorem q_Model_beatenBy_33 (K : Fx p s m args meth c b_Model_beatenBy 4 R_Model (some .int)) (k4 : (St → Int32 → Int32 → Int32 → Option (Int32 × St))) (hk4 : ∀ (H : Heap) (locs : List Loc) (ls : Array Slot) (s0 : St) (v1 : Int32) (v2 : Int32) (v3 : Int32), Wh D cA ad shM A s s0 H locs → lv_has ls 4 [(0, .ref (ad 0)), (1, .int v1), (2, .int v2), (3, .int v3)] → k4 s0 v1 v2 v3 = (some (r, τ)) → W p l e rm_Model_beatenBy s m args below meth c H locs 0 0 (MQ below (QcI D cA ad shM A r τ) args s 0 0 A) (F0 m 4 ls [])) : ∀ (H : Heap) (locs : List Loc) (ls : Array Slot) (s0 : St) (v1 : Int32) (v3 : Int32) (t0 : Int32), Wh D cA ad shM A s s0 H locs → lv_has ls 4 [(0, .ref (ad 0)), (1, .int v1), (3, .int v3)] → F_Model_beatenBy_33 k4 s0 v1 v3 t0 = (some (r, τ)) → W p l e rm_Model_beatenBy s m args below meth c H locs 0 0 (MQ below (QcI D cA ad shM A r τ) args s 0 0 A) (F0 m 33 ls [.int t0]) := by
  have hx := K.1.1; have hb := K.1.2.1
  intro H locs ls s0 v1 v3 t0 hw hl hF
  unfold F_Model_beatenBy_33 at hF
  refine lv_iconst (v := 0) hx hb d_Model_beatenBy_33 (by decide) ?_
  exact q_Model_beatenBy_34 K k4 hk4 _ _ _ _ _ _ _ _  hw (lv_sub hl [0, 1, 2] rfl) hF
noncomputable def F_Model_beatenBy_4 : Nat → St → Int32 → Int32 → Int32 → Option (Int32 × St)
  | 0, _, _, _, _ => none
  | n + 1, s0, v1, v2, v3 => (if (s0.1 0 0) ≤ v3 then (some (v2, s0)) else (if v3 = v1 then (F_Model_beatenBy_33 (fun z0 zv1 zv2 zv3 => F_Model_beatenBy_4 n z0 zv1 zv2 zv3) s0 v1 v3 v2) else (ob2 (F_Model_winsBy s0 v1 v3) (fun r_3 s_4 => (if r_3 = 0 then (F_Model_beatenBy_33 (fun z0 zv1 zv2 zv3 => F_Model_beatenBy_4 n z0 zv1 zv2 zv3) s_4 v1 v3 v2) else (F_Model_beatenBy_34 (fun z0 zv1 zv2 zv3 => F_Model_beatenBy_4 n z0 zv1 zv2 zv3) s_4 v1 v3 v2 (jshl (1 : Int32) v3)))))))
set_option maxHeartbeats 4000000 in
set_option maxRecDepth 100000 in
theorem q_Model_beatenBy_4 (K : Fx p s m args meth c b_Model_beatenBy 4 R_Model (some .int))  : ∀ (n : Nat), ∀ (H : Heap) (locs : List Loc) (ls : Array Slot) (s0 : St) (v1 : Int32) (v2 : Int32) (v3 : Int32), Wh D cA ad shM A s s0 H locs → lv_has ls 4 [(0, .ref (ad 0)), (1, .int v1), (2, .int v2), (3, .int v3)] → F_Model_beatenBy_4 n s0 v1 v2 v3 = (some (r, τ)) → W p l e rm_Model_beatenBy s m args below meth c H locs 0 0 (MQ below (QcI D cA ad shM A r τ) args s 0 0 A) (F0 m 4 ls []) := by
  have hx := K.1.1; have hb := K.1.2.1
  intro n
  induction n with
  | zero =>
    intro H locs ls s0 v1 v2 v3 hw hl hF
    exact absurd hF (by rw [F_Model_beatenBy_4]; exact nofun)
  | succ n ih =>
    intro H locs ls s0 v1 v2 v3 hw hl hF
    rw [F_Model_beatenBy_4] at hF
    refine lv_iload_n hx hb d_Model_beatenBy_4 rfl (lv_at hl 3 rfl) ?_
    refine lv_aload_n hx hb d_Model_beatenBy_5 rfl (lv_at hl 0 rfl) ?_
    refine r_get (v := .int (s0.1 0 0)) K hw i_Model sh_Model rfl 0 (by decide) w_1025 rfl rfl rfl d_Model_beatenBy_6 ?_
    refine lv_icmp_ge (tgt := 42) hx hb d_Model_beatenBy_9 (by decide) (fun c_1 => ?_) (fun c_1 => ?_)
    · replace hF := ifT hF c_1
      refine lv_iload_n hx hb d_Model_beatenBy_42 rfl (lv_at hl 2 rfl) ?_
      obtain ⟨hF, hG⟩ := sE2 hF
      subst hF
      subst hG
      exact r_iret K hw d_Model_beatenBy_43
    · replace hF := ifF hF c_1
      refine lv_iload_n hx hb d_Model_beatenBy_12 rfl (lv_at hl 2 rfl) ?_
      refine lv_iload_n hx hb d_Model_beatenBy_13 rfl (lv_at hl 3 rfl) ?_
      refine lv_iload_n hx hb d_Model_beatenBy_14 rfl (lv_at hl 1 rfl) ?_
      refine lv_icmp_eq (tgt := 33) hx hb d_Model_beatenBy_15 (by decide) (fun c_2 => ?_) (fun c_2 => ?_)
      · replace hF := ifT hF c_2
        exact q_Model_beatenBy_33 K (fun z0 zv1 zv2 zv3 => F_Model_beatenBy_4 n z0 zv1 zv2 zv3) ih _ _ _ _ _ _ _  hw (lv_sub hl [0, 1, 3] rfl) hF
      · replace hF := ifF hF c_2
        refine lv_aload_n hx hb d_Model_beatenBy_18 rfl (lv_at hl 0 rfl) ?_
        refine lv_iload_n hx hb d_Model_beatenBy_19 rfl (lv_at hl 1 rfl) ?_
        refine lv_iload_n hx hb d_Model_beatenBy_20 rfl (lv_at hl 3 rfl) ?_
        obtain ⟨r_3, s_4, h_s_4, hF⟩ := ob2E hF
        refine r_callVI (As := [.int v1, .int v3]) (rest := [.int v2]) K hw hl.1 (c_Model_winsBy (l := l) (D := D) (cA := cA) (ad := ad) (s0 := s0)   h_s_4) sh_Model rfl (tb_gV w_1319 w_1321 w_56 w_80 w_1322) a_Model_winsBy ⟨rfl, rfl, Nat.le_of_ble_eq_true rfl, Nat.le_of_ble_eq_true rfl⟩ rfl rfl (Nat.le_of_ble_eq_true rfl) d_Model_beatenBy_21 (fun H locs hw => ?_)
        refine lv_if_eq (tgt := 33) hx hb d_Model_beatenBy_24 (by decide) (fun c_5 => ?_) (fun c_5 => ?_)
        · replace hF := ifT hF c_5
          exact q_Model_beatenBy_33 K (fun z0 zv1 zv2 zv3 => F_Model_beatenBy_4 n z0 zv1 zv2 zv3) ih _ _ _ _ _ _ _  hw (lv_sub hl [0, 1, 3] rfl) hF
        · replace hF := ifF hF c_5
          refine lv_iconst (v := 1) hx hb d_Model_beatenBy_27 (by decide) ?_
          refine lv_iload_n hx hb d_Model_beatenBy_28 rfl (lv_at hl 3 rfl) ?_
          refine lv_ishl hx hb d_Model_beatenBy_29 ?_
          refine lv_goto (tgt := 34) hx hb d_Model_beatenBy_30 (by decide) ?_
          exact q_Model_beatenBy_34 K (fun z0 zv1 zv2 zv3 => F_Model_beatenBy_4 n z0 zv1 zv2 zv3) ih _ _ _ _ _ _ _ _  hw (lv_sub hl [0, 1, 3] rfl) hF
noncomputable def F_Model_beatenBy_0 (s0 : St) (v1 : Int32) : Option (Int32 × St) := (F_Model_beatenBy_4 FU s0 v1 (0 : Int32) (0 : Int32))
set_option maxHeartbeats 4000000 in
set_option maxRecDepth 100000 in
theorem q_Model_beatenBy_0 (K : Fx p s m args meth c b_Model_beatenBy 4 R_Model (some .int))  : ∀ (H : Heap) (locs : List Loc) (ls : Array Slot) (s0 : St) (v1 : Int32), Wh D cA ad shM A s s0 H locs → lv_has ls 4 [(0, .ref (ad 0)), (1, .int v1)] → F_Model_beatenBy_0 s0 v1 = (some (r, τ)) → W p l e rm_Model_beatenBy s m args below meth c H locs 0 0 (MQ below (QcI D cA ad shM A r τ) args s 0 0 A) (F0 m 0 ls []) := by
  have hx := K.1.1; have hb := K.1.2.1
  intro H locs ls s0 v1 hw hl hF
  unfold F_Model_beatenBy_0 at hF
  refine lv_iconst (v := 0) hx hb d_Model_beatenBy_0 (by decide) ?_
  refine lv_istore_n (lv' := [(2, .int (0 : Int32)), (0, .ref (ad 0)), (1, .int v1)]) hx hb d_Model_beatenBy_1 rfl hl (by decide) rfl (fun ls hl => ?_)
  refine lv_iconst (v := 0) hx hb d_Model_beatenBy_2 (by decide) ?_
  refine lv_istore_n (lv' := [(3, .int (0 : Int32)), (2, .int (0 : Int32)), (0, .ref (ad 0)), (1, .int v1)]) hx hb d_Model_beatenBy_3 rfl hl (by decide) rfl (fun ls hl => ?_)
  exact q_Model_beatenBy_4 K FU _ _ _ _ _ _ _  hw (lv_sub hl [2, 3, 1, 0] rfl) hF
end S_Model_beatenBy
noncomputable abbrev F_Model_beatenBy := F_Model_beatenBy_0
theorem c_Model_beatenBy {l : Launch} {D : va_G} {cA : Nat → ClassId} {ad : Nat → Nat} {s0 τ : St} {r : Int32} {v1 : Int32}  (hF : F_Model_beatenBy s0 v1 = (some (r, τ))) : MI l D cA ad shM y_Model_beatenBy (wT y_Model_beatenBy b_Model_beatenBy 4 (some .int)) rm_Model_beatenBy [.ref (ad 0), .int v1] s0 r τ := fun sz => m_start (Qc := fun A => QcI D cA ad shM A r τ) (by decide +kernel) w_1318 (Nat.le_of_ble_eq_true rfl) (fun p e s m below meth c ls K hl hw => q_Model_beatenBy_0 K _ _ _ _ _  hw hl hF)

/-! Model.beats(I)I -/
abbrev b_Model_beats : ByteArray := prog_13_method_56_code
def y_Model_beats : MethodName := ⟨R_Model, "beats", "(I)I"⟩
theorem a_Model_beats : y_Model_beats.cls = R_Model ∧ y_Model_beats.cls ≠ "java/lang/invoke/MethodHandle" ∧ y_Model_beats.cls ≠ "java/lang/invoke/VarHandle" ∧ (parseMethodDescriptor y_Model_beats.desc).map (fun d => d.parameters.length) = some 1 := by decide +kernel
abbrev rm_Model_beats : Room := { frames := 9, cells := 0, slots := 0, locals := 220 }
theorem w_1315 : Cond.methodLink R_Model 260 y_Model_beatenBy ∈ TB := tb_in 1315 (by decide +kernel) (by decide +kernel)
theorem w_1317 : Cond.instanceMethod y_Model_beatenBy ∈ TB := tb_in 1317 (by decide +kernel) (by decide +kernel)
theorem w_55 : Cond.selects R_Model y_Model_beatenBy y_Model_beatenBy ∈ TB := tb_in 55 (by decide +kernel) (by decide +kernel)
theorem w_1314 : Cond.code y_Model_beats b_Model_beats 2 (some .int) ∈ TB := tb_in 1314 (by decide +kernel) (by decide +kernel)
theorem d_Model_beats_0 : decode b_Model_beats 0 = .ok (.aload_n 0, 1) := by decide +kernel
theorem d_Model_beats_1 : decode b_Model_beats 1 = .ok (.iload_n 1, 1) := by decide +kernel
theorem d_Model_beats_2 : decode b_Model_beats 2 = .ok (.invokevirtual 82, 3) := by decide +kernel
theorem d_Model_beats_5 : decode b_Model_beats 5 = .ok (.ifCond .eq 11, 3) := by decide +kernel
theorem d_Model_beats_8 : decode b_Model_beats 8 = .ok (.aload_n 0, 1) := by decide +kernel
theorem d_Model_beats_9 : decode b_Model_beats 9 = .ok (.iload_n 1, 1) := by decide +kernel
theorem d_Model_beats_10 : decode b_Model_beats 10 = .ok (.invokevirtual 260, 3) := by decide +kernel
theorem d_Model_beats_13 : decode b_Model_beats 13 = .ok (.goto 5, 3) := by decide +kernel
theorem d_Model_beats_16 : decode b_Model_beats 16 = .ok (.bipush (-5), 2) := by decide +kernel
theorem d_Model_beats_18 : decode b_Model_beats 18 = .ok (.ireturn, 1) := by decide +kernel
section S_Model_beats
variable {p : Program} {l : Launch} {e : Env} {s : State} {m : MethodId} {args : Array Value} {below : List Frame} {meth : Method} {c : Code} {D : va_G} {cA : Nat → ClassId} {ad : Nat → Nat} {nC : Nat} {A : Nat → Prop} {r : Int32} {τ : St}
noncomputable def F_Model_beats_0 (s0 : St) (v1 : Int32) : Option (Int32 × St) := (ob1 (F_Model_isArm s0 v1) (fun r_1 => (if r_1 = 0 then (some ((-5 : Int32), s0)) else (ob2 (F_Model_beatenBy s0 v1) (fun r_3 s_4 => (some (r_3, s_4)))))))
set_option maxHeartbeats 4000000 in
set_option maxRecDepth 100000 in
theorem q_Model_beats_0 (K : Fx p s m args meth c b_Model_beats 2 R_Model (some .int))  : ∀ (H : Heap) (locs : List Loc) (ls : Array Slot) (s0 : St) (v1 : Int32), Wh D cA ad shM A s s0 H locs → lv_has ls 2 [(0, .ref (ad 0)), (1, .int v1)] → F_Model_beats_0 s0 v1 = (some (r, τ)) → W p l e rm_Model_beats s m args below meth c H locs 0 0 (MQ below (QcI D cA ad shM A r τ) args s 0 0 A) (F0 m 0 ls []) := by
  have hx := K.1.1; have hb := K.1.2.1
  intro H locs ls s0 v1 hw hl hF
  unfold F_Model_beats_0 at hF
  refine lv_aload_n hx hb d_Model_beats_0 rfl (lv_at hl 0 rfl) ?_
  refine lv_iload_n hx hb d_Model_beats_1 rfl (lv_at hl 1 rfl) ?_
  obtain ⟨r_1, h_r_1, hF⟩ := ob1E hF
  refine r_callVI (As := [.int v1]) (rest := []) K hw hl.1 (c_Model_isArm (l := l) (D := D) (cA := cA) (ad := ad) (s0 := s0)   h_r_1) sh_Model rfl (tb_gV w_1181 w_1183 w_39 w_80 w_1184) a_Model_isArm ⟨rfl, rfl, Nat.le_of_ble_eq_true rfl, Nat.le_of_ble_eq_true rfl⟩ rfl rfl (Nat.le_of_ble_eq_true rfl) d_Model_beats_2 (fun H locs hw => ?_)
  refine lv_if_eq (tgt := 16) hx hb d_Model_beats_5 (by decide) (fun c_2 => ?_) (fun c_2 => ?_)
  · replace hF := ifT hF c_2
    refine lv_bipush (v := -5) hx hb d_Model_beats_16 (by decide) ?_
    obtain ⟨hF, hG⟩ := sE2 hF
    subst hF
    subst hG
    exact r_iret K hw d_Model_beats_18
  · replace hF := ifF hF c_2
    refine lv_aload_n hx hb d_Model_beats_8 rfl (lv_at hl 0 rfl) ?_
    refine lv_iload_n hx hb d_Model_beats_9 rfl (lv_at hl 1 rfl) ?_
    obtain ⟨r_3, s_4, h_s_4, hF⟩ := ob2E hF
    refine r_callVI (As := [.int v1]) (rest := []) K hw hl.1 (c_Model_beatenBy (l := l) (D := D) (cA := cA) (ad := ad) (s0 := s0)   h_s_4) sh_Model rfl (tb_gV w_1315 w_1317 w_55 w_80 w_1318) a_Model_beatenBy ⟨rfl, rfl, Nat.le_of_ble_eq_true rfl, Nat.le_of_ble_eq_true rfl⟩ rfl rfl (Nat.le_of_ble_eq_true rfl) d_Model_beats_10 (fun H locs hw => ?_)
    refine lv_goto (tgt := 18) hx hb d_Model_beats_13 (by decide) ?_
    obtain ⟨hF, hG⟩ := sE2 hF
    subst hF
    subst hG
    exact r_iret K hw d_Model_beats_18
end S_Model_beats
noncomputable abbrev F_Model_beats := F_Model_beats_0
theorem c_Model_beats {l : Launch} {D : va_G} {cA : Nat → ClassId} {ad : Nat → Nat} {s0 τ : St} {r : Int32} {v1 : Int32}  (hF : F_Model_beats s0 v1 = (some (r, τ))) : MI l D cA ad shM y_Model_beats (wT y_Model_beats b_Model_beats 2 (some .int)) rm_Model_beats [.ref (ad 0), .int v1] s0 r τ := fun sz => m_start (Qc := fun A => QcI D cA ad shM A r τ) (by decide +kernel) w_1314 (Nat.le_of_ble_eq_true rfl) (fun p e s m below meth c ls K hl hw => q_Model_beats_0 K _ _ _ _ _  hw hl hF)

/-! Model.rings(I)I -/
abbrev b_Model_rings : ByteArray := prog_13_method_57_code
def y_Model_rings : MethodName := ⟨R_Model, "rings", "(I)I"⟩
theorem a_Model_rings : y_Model_rings.cls = R_Model ∧ y_Model_rings.cls ≠ "java/lang/invoke/MethodHandle" ∧ y_Model_rings.cls ≠ "java/lang/invoke/VarHandle" ∧ (parseMethodDescriptor y_Model_rings.desc).map (fun d => d.parameters.length) = some 1 := by decide +kernel
abbrev rm_Model_rings : Room := { frames := 9, cells := 0, slots := 0, locals := 220 }
theorem w_1069 : Cond.fieldLink R_Model 64 R_Model "beaten" "[I" ∈ TB := tb_in 1069 (by decide +kernel) (by decide +kernel)
theorem w_1326 : Cond.code y_Model_rings b_Model_rings 7 (some .int) ∈ TB := tb_in 1326 (by decide +kernel) (by decide +kernel)
theorem d_Model_rings_0 : decode b_Model_rings 0 = .ok (.iload_n 1, 1) := by decide +kernel
theorem d_Model_rings_1 : decode b_Model_rings 1 = .ok (.iconst 0, 1) := by decide +kernel
theorem d_Model_rings_2 : decode b_Model_rings 2 = .ok (.iconst 1, 1) := by decide +kernel
theorem d_Model_rings_3 : decode b_Model_rings 3 = .ok (.invokestatic 78, 3) := by decide +kernel
theorem d_Model_rings_6 : decode b_Model_rings 6 = .ok (.ifCond .ne 6, 3) := by decide +kernel
theorem d_Model_rings_9 : decode b_Model_rings 9 = .ok (.bipush (-2), 2) := by decide +kernel
theorem d_Model_rings_11 : decode b_Model_rings 11 = .ok (.ireturn, 1) := by decide +kernel
theorem d_Model_rings_12 : decode b_Model_rings 12 = .ok (.iconst 0, 1) := by decide +kernel
theorem d_Model_rings_13 : decode b_Model_rings 13 = .ok (.istore_n 2, 1) := by decide +kernel
theorem d_Model_rings_14 : decode b_Model_rings 14 = .ok (.iload_n 2, 1) := by decide +kernel
theorem d_Model_rings_15 : decode b_Model_rings 15 = .ok (.aload_n 0, 1) := by decide +kernel
theorem d_Model_rings_16 : decode b_Model_rings 16 = .ok (.getfield 75, 3) := by decide +kernel
theorem d_Model_rings_19 : decode b_Model_rings 19 = .ok (.if_icmp .ge 20, 3) := by decide +kernel
theorem d_Model_rings_22 : decode b_Model_rings 22 = .ok (.aload_n 0, 1) := by decide +kernel
theorem d_Model_rings_23 : decode b_Model_rings 23 = .ok (.getfield 64, 3) := by decide +kernel
theorem d_Model_rings_26 : decode b_Model_rings 26 = .ok (.iload_n 2, 1) := by decide +kernel
theorem d_Model_rings_27 : decode b_Model_rings 27 = .ok (.aload_n 0, 1) := by decide +kernel
theorem d_Model_rings_28 : decode b_Model_rings 28 = .ok (.iload_n 2, 1) := by decide +kernel
theorem d_Model_rings_29 : decode b_Model_rings 29 = .ok (.invokevirtual 260, 3) := by decide +kernel
theorem d_Model_rings_32 : decode b_Model_rings 32 = .ok (.iastore, 1) := by decide +kernel
theorem d_Model_rings_33 : decode b_Model_rings 33 = .ok (.iinc 2 1, 3) := by decide +kernel
theorem d_Model_rings_36 : decode b_Model_rings 36 = .ok (.goto (-22), 3) := by decide +kernel
theorem d_Model_rings_39 : decode b_Model_rings 39 = .ok (.iconst 0, 1) := by decide +kernel
theorem d_Model_rings_40 : decode b_Model_rings 40 = .ok (.istore_n 2, 1) := by decide +kernel
theorem d_Model_rings_41 : decode b_Model_rings 41 = .ok (.iconst (-1), 1) := by decide +kernel
theorem d_Model_rings_42 : decode b_Model_rings 42 = .ok (.istore_n 3, 1) := by decide +kernel
theorem d_Model_rings_43 : decode b_Model_rings 43 = .ok (.iconst 0, 1) := by decide +kernel
theorem d_Model_rings_44 : decode b_Model_rings 44 = .ok (.istore 4, 2) := by decide +kernel
theorem d_Model_rings_46 : decode b_Model_rings 46 = .ok (.iload 4, 2) := by decide +kernel
theorem d_Model_rings_48 : decode b_Model_rings 48 = .ok (.aload_n 0, 1) := by decide +kernel
theorem d_Model_rings_49 : decode b_Model_rings 49 = .ok (.getfield 75, 3) := by decide +kernel
theorem d_Model_rings_52 : decode b_Model_rings 52 = .ok (.if_icmp .ge 118, 3) := by decide +kernel
theorem d_Model_rings_55 : decode b_Model_rings 55 = .ok (.iload 4, 2) := by decide +kernel
theorem d_Model_rings_57 : decode b_Model_rings 57 = .ok (.iconst 1, 1) := by decide +kernel
theorem d_Model_rings_58 : decode b_Model_rings 58 = .ok (.iadd, 1) := by decide +kernel
theorem d_Model_rings_59 : decode b_Model_rings 59 = .ok (.istore 5, 2) := by decide +kernel
theorem d_Model_rings_61 : decode b_Model_rings 61 = .ok (.iload 5, 2) := by decide +kernel
theorem d_Model_rings_63 : decode b_Model_rings 63 = .ok (.aload_n 0, 1) := by decide +kernel
theorem d_Model_rings_64 : decode b_Model_rings 64 = .ok (.getfield 75, 3) := by decide +kernel
theorem d_Model_rings_67 : decode b_Model_rings 67 = .ok (.if_icmp .ge 97, 3) := by decide +kernel
theorem d_Model_rings_70 : decode b_Model_rings 70 = .ok (.iload 4, 2) := by decide +kernel
theorem d_Model_rings_72 : decode b_Model_rings 72 = .ok (.iconst 1, 1) := by decide +kernel
theorem d_Model_rings_73 : decode b_Model_rings 73 = .ok (.iadd, 1) := by decide +kernel
theorem d_Model_rings_74 : decode b_Model_rings 74 = .ok (.istore 6, 2) := by decide +kernel
theorem d_Model_rings_76 : decode b_Model_rings 76 = .ok (.iload 6, 2) := by decide +kernel
theorem d_Model_rings_78 : decode b_Model_rings 78 = .ok (.aload_n 0, 1) := by decide +kernel
theorem d_Model_rings_79 : decode b_Model_rings 79 = .ok (.getfield 75, 3) := by decide +kernel
theorem d_Model_rings_82 : decode b_Model_rings 82 = .ok (.if_icmp .ge 76, 3) := by decide +kernel
theorem d_Model_rings_85 : decode b_Model_rings 85 = .ok (.aload_n 0, 1) := by decide +kernel
theorem d_Model_rings_86 : decode b_Model_rings 86 = .ok (.getfield 64, 3) := by decide +kernel
theorem d_Model_rings_89 : decode b_Model_rings 89 = .ok (.iload 4, 2) := by decide +kernel
theorem d_Model_rings_91 : decode b_Model_rings 91 = .ok (.iaload, 1) := by decide +kernel
theorem d_Model_rings_92 : decode b_Model_rings 92 = .ok (.iload 5, 2) := by decide +kernel
theorem d_Model_rings_94 : decode b_Model_rings 94 = .ok (.ishr, 1) := by decide +kernel
theorem d_Model_rings_95 : decode b_Model_rings 95 = .ok (.aload_n 0, 1) := by decide +kernel
theorem d_Model_rings_96 : decode b_Model_rings 96 = .ok (.getfield 64, 3) := by decide +kernel
theorem d_Model_rings_99 : decode b_Model_rings 99 = .ok (.iload 5, 2) := by decide +kernel
theorem d_Model_rings_101 : decode b_Model_rings 101 = .ok (.iaload, 1) := by decide +kernel
theorem d_Model_rings_102 : decode b_Model_rings 102 = .ok (.iload 6, 2) := by decide +kernel
theorem d_Model_rings_104 : decode b_Model_rings 104 = .ok (.ishr, 1) := by decide +kernel
theorem d_Model_rings_105 : decode b_Model_rings 105 = .ok (.iand, 1) := by decide +kernel
theorem d_Model_rings_106 : decode b_Model_rings 106 = .ok (.aload_n 0, 1) := by decide +kernel
theorem d_Model_rings_107 : decode b_Model_rings 107 = .ok (.getfield 64, 3) := by decide +kernel
theorem d_Model_rings_110 : decode b_Model_rings 110 = .ok (.iload 6, 2) := by decide +kernel
theorem d_Model_rings_112 : decode b_Model_rings 112 = .ok (.iaload, 1) := by decide +kernel
theorem d_Model_rings_113 : decode b_Model_rings 113 = .ok (.iload 4, 2) := by decide +kernel
theorem d_Model_rings_115 : decode b_Model_rings 115 = .ok (.ishr, 1) := by decide +kernel
theorem d_Model_rings_116 : decode b_Model_rings 116 = .ok (.iand, 1) := by decide +kernel
theorem d_Model_rings_117 : decode b_Model_rings 117 = .ok (.iconst 1, 1) := by decide +kernel
theorem d_Model_rings_118 : decode b_Model_rings 118 = .ok (.iand, 1) := by decide +kernel
theorem d_Model_rings_119 : decode b_Model_rings 119 = .ok (.iconst 1, 1) := by decide +kernel
theorem d_Model_rings_120 : decode b_Model_rings 120 = .ok (.if_icmp .ne 32, 3) := by decide +kernel
theorem d_Model_rings_123 : decode b_Model_rings 123 = .ok (.iload_n 2, 1) := by decide +kernel
theorem d_Model_rings_124 : decode b_Model_rings 124 = .ok (.ifCond .ne 23, 3) := by decide +kernel
theorem d_Model_rings_127 : decode b_Model_rings 127 = .ok (.bipush 100, 2) := by decide +kernel
theorem d_Model_rings_129 : decode b_Model_rings 129 = .ok (.iload 4, 2) := by decide +kernel
theorem d_Model_rings_131 : decode b_Model_rings 131 = .ok (.imul, 1) := by decide +kernel
theorem d_Model_rings_132 : decode b_Model_rings 132 = .ok (.bipush 10, 2) := by decide +kernel
theorem d_Model_rings_134 : decode b_Model_rings 134 = .ok (.iload 5, 2) := by decide +kernel
theorem d_Model_rings_136 : decode b_Model_rings 136 = .ok (.imul, 1) := by decide +kernel
theorem d_Model_rings_137 : decode b_Model_rings 137 = .ok (.iadd, 1) := by decide +kernel
theorem d_Model_rings_138 : decode b_Model_rings 138 = .ok (.iload 6, 2) := by decide +kernel
theorem d_Model_rings_140 : decode b_Model_rings 140 = .ok (.iadd, 1) := by decide +kernel
theorem d_Model_rings_141 : decode b_Model_rings 141 = .ok (.bipush 111, 2) := by decide +kernel
theorem d_Model_rings_143 : decode b_Model_rings 143 = .ok (.iadd, 1) := by decide +kernel
theorem d_Model_rings_144 : decode b_Model_rings 144 = .ok (.goto 4, 3) := by decide +kernel
theorem d_Model_rings_147 : decode b_Model_rings 147 = .ok (.iload_n 3, 1) := by decide +kernel
theorem d_Model_rings_148 : decode b_Model_rings 148 = .ok (.istore_n 3, 1) := by decide +kernel
theorem d_Model_rings_149 : decode b_Model_rings 149 = .ok (.iinc 2 1, 3) := by decide +kernel
theorem d_Model_rings_152 : decode b_Model_rings 152 = .ok (.iinc 6 1, 3) := by decide +kernel
theorem d_Model_rings_155 : decode b_Model_rings 155 = .ok (.goto (-79), 3) := by decide +kernel
theorem d_Model_rings_158 : decode b_Model_rings 158 = .ok (.iinc 5 1, 3) := by decide +kernel
theorem d_Model_rings_161 : decode b_Model_rings 161 = .ok (.goto (-100), 3) := by decide +kernel
theorem d_Model_rings_164 : decode b_Model_rings 164 = .ok (.iinc 4 1, 3) := by decide +kernel
theorem d_Model_rings_167 : decode b_Model_rings 167 = .ok (.goto (-121), 3) := by decide +kernel
theorem d_Model_rings_170 : decode b_Model_rings 170 = .ok (.iload_n 1, 1) := by decide +kernel
theorem d_Model_rings_171 : decode b_Model_rings 171 = .ok (.ifCond .ne 7, 3) := by decide +kernel
theorem d_Model_rings_174 : decode b_Model_rings 174 = .ok (.iload_n 2, 1) := by decide +kernel
theorem d_Model_rings_175 : decode b_Model_rings 175 = .ok (.goto 4, 3) := by decide +kernel
theorem d_Model_rings_178 : decode b_Model_rings 178 = .ok (.iload_n 3, 1) := by decide +kernel
theorem d_Model_rings_179 : decode b_Model_rings 179 = .ok (.ireturn, 1) := by decide +kernel
section S_Model_rings
variable {p : Program} {l : Launch} {e : Env} {s : State} {m : MethodId} {args : Array Value} {below : List Frame} {meth : Method} {c : Code} {D : va_G} {cA : Nat → ClassId} {ad : Nat → Nat} {nC : Nat} {A : Nat → Prop} {r : Int32} {τ : St}
noncomputable def F_Model_rings_152 (k28 : (St → Int32 → Int32 → Int32 → Int32 → Option (Int32 × St))) (k36 : (St → Int32 → Int32 → Int32 → Int32 → Int32 → Option (Int32 × St))) (k44 : (St → Int32 → Int32 → Int32 → Int32 → Int32 → Int32 → Option (Int32 × St))) (s0 : St) (v1 : Int32) (v2 : Int32) (v3 : Int32) (v4 : Int32) (v5 : Int32) (v6 : Int32) : Option (Int32 × St) := (k44 s0 v1 v2 v3 v4 v5 (v6 + 1))
set_option maxHeartbeats 4000000 in
set_option maxRecDepth 100000 in
theorem q_Model_rings_152 (K : Fx p s m args meth c b_Model_rings 7 R_Model (some .int)) (k28 : (St → Int32 → Int32 → Int32 → Int32 → Option (Int32 × St))) (hk28 : ∀ (H : Heap) (locs : List Loc) (ls : Array Slot) (s0 : St) (v1 : Int32) (v2 : Int32) (v3 : Int32) (v4 : Int32), Wh D cA ad shM A s s0 H locs → lv_has ls 7 [(0, .ref (ad 0)), (1, .int v1), (2, .int v2), (3, .int v3), (4, .int v4)] → k28 s0 v1 v2 v3 v4 = (some (r, τ)) → W p l e rm_Model_rings s m args below meth c H locs 0 0 (MQ below (QcI D cA ad shM A r τ) args s 0 0 A) (F0 m 46 ls [])) (k36 : (St → Int32 → Int32 → Int32 → Int32 → Int32 → Option (Int32 × St))) (hk36 : ∀ (H : Heap) (locs : List Loc) (ls : Array Slot) (s0 : St) (v1 : Int32) (v2 : Int32) (v3 : Int32) (v4 : Int32) (v5 : Int32), Wh D cA ad shM A s s0 H locs → lv_has ls 7 [(0, .ref (ad 0)), (1, .int v1), (2, .int v2), (3, .int v3), (4, .int v4), (5, .int v5)] → k36 s0 v1 v2 v3 v4 v5 = (some (r, τ)) → W p l e rm_Model_rings s m args below meth c H locs 0 0 (MQ below (QcI D cA ad shM A r τ) args s 0 0 A) (F0 m 61 ls [])) (k44 : (St → Int32 → Int32 → Int32 → Int32 → Int32 → Int32 → Option (Int32 × St))) (hk44 : ∀ (H : Heap) (locs : List Loc) (ls : Array Slot) (s0 : St) (v1 : Int32) (v2 : Int32) (v3 : Int32) (v4 : Int32) (v5 : Int32) (v6 : Int32), Wh D cA ad shM A s s0 H locs → lv_has ls 7 [(0, .ref (ad 0)), (1, .int v1), (2, .int v2), (3, .int v3), (4, .int v4), (5, .int v5), (6, .int v6)] → k44 s0 v1 v2 v3 v4 v5 v6 = (some (r, τ)) → W p l e rm_Model_rings s m args below meth c H locs 0 0 (MQ below (QcI D cA ad shM A r τ) args s 0 0 A) (F0 m 76 ls [])) : ∀ (H : Heap) (locs : List Loc) (ls : Array Slot) (s0 : St) (v1 : Int32) (v2 : Int32) (v3 : Int32) (v4 : Int32) (v5 : Int32) (v6 : Int32), Wh D cA ad shM A s s0 H locs → lv_has ls 7 [(0, .ref (ad 0)), (1, .int v1), (2, .int v2), (3, .int v3), (4, .int v4), (5, .int v5), (6, .int v6)] → F_Model_rings_152 k28 k36 k44 s0 v1 v2 v3 v4 v5 v6 = (some (r, τ)) → W p l e rm_Model_rings s m args below meth c H locs 0 0 (MQ below (QcI D cA ad shM A r τ) args s 0 0 A) (F0 m 152 ls []) := by
  have hx := K.1.1; have hb := K.1.2.1
  intro H locs ls s0 v1 v2 v3 v4 v5 v6 hw hl hF
  unfold F_Model_rings_152 at hF
  refine lv_iinc (v := (v6 + 1)) (lv' := [(6, .int (v6 + 1)), (0, .ref (ad 0)), (1, .int v1), (2, .int v2), (3, .int v3), (4, .int v4), (5, .int v5)]) hx hb d_Model_rings_152 hl (k := 6) rfl rfl (by decide) rfl (fun ls hl => ?_)
  refine lv_goto (tgt := 76) hx hb d_Model_rings_155 (by decide) ?_
  exact hk44 _ _ _ _ _ _ _ _ _ _  hw (lv_sub hl [1, 2, 3, 4, 5, 6, 0] rfl) hF
noncomputable def F_Model_rings_148 (k28 : (St → Int32 → Int32 → Int32 → Int32 → Option (Int32 × St))) (k36 : (St → Int32 → Int32 → Int32 → Int32 → Int32 → Option (Int32 × St))) (k44 : (St → Int32 → Int32 → Int32 → Int32 → Int32 → Int32 → Option (Int32 × St))) (s0 : St) (v1 : Int32) (v2 : Int32) (v4 : Int32) (v5 : Int32) (v6 : Int32) (t0 : Int32) : Option (Int32 × St) := (F_Model_rings_152 k28 k36 k44 s0 v1 (v2 + 1) t0 v4 v5 v6)
set_option maxHeartbeats 4000000 in
set_option maxRecDepth 100000 in
theorem q_Model_rings_148 (K : Fx p s m args meth c b_Model_rings 7 R_Model (some .int)) (k28 : (St → Int32 → Int32 → Int32 → Int32 → Option (Int32 × St))) (hk28 : ∀ (H : Heap) (locs : List Loc) (ls : Array Slot) (s0 : St) (v1 : Int32) (v2 : Int32) (v3 : Int32) (v4 : Int32), Wh D cA ad shM A s s0 H locs → lv_has ls 7 [(0, .ref (ad 0)), (1, .int v1), (2, .int v2), (3, .int v3), (4, .int v4)] → k28 s0 v1 v2 v3 v4 = (some (r, τ)) → W p l e rm_Model_rings s m args below meth c H locs 0 0 (MQ below (QcI D cA ad shM A r τ) args s 0 0 A) (F0 m 46 ls [])) (k36 : (St → Int32 → Int32 → Int32 → Int32 → Int32 → Option (Int32 × St))) (hk36 : ∀ (H : Heap) (locs : List Loc) (ls : Array Slot) (s0 : St) (v1 : Int32) (v2 : Int32) (v3 : Int32) (v4 : Int32) (v5 : Int32), Wh D cA ad shM A s s0 H locs → lv_has ls 7 [(0, .ref (ad 0)), (1, .int v1), (2, .int v2), (3, .int v3), (4, .int v4), (5, .int v5)] → k36 s0 v1 v2 v3 v4 v5 = (some (r, τ)) → W p l e rm_Model_rings s m args below meth c H locs 0 0 (MQ below (QcI D cA ad shM A r τ) args s 0 0 A) (F0 m 61 ls [])) (k44 : (St → Int32 → Int32 → Int32 → Int32 → Int32 → Int32 → Option (Int32 × St))) (hk44 : ∀ (H : Heap) (locs : List Loc) (ls : Array Slot) (s0 : St) (v1 : Int32) (v2 : Int32) (v3 : Int32) (v4 : Int32) (v5 : Int32) (v6 : Int32), Wh D cA ad shM A s s0 H locs → lv_has ls 7 [(0, .ref (ad 0)), (1, .int v1), (2, .int v2), (3, .int v3), (4, .int v4), (5, .int v5), (6, .int v6)] → k44 s0 v1 v2 v3 v4 v5 v6 = (some (r, τ)) → W p l e rm_Model_rings s m args below meth c H locs 0 0 (MQ below (QcI D cA ad shM A r τ) args s 0 0 A) (F0 m 76 ls [])) : ∀ (H : Heap) (locs : List Loc) (ls : Array Slot) (s0 : St) (v1 : Int32) (v2 : Int32) (v4 : Int32) (v5 : Int32) (v6 : Int32) (t0 : Int32), Wh D cA ad shM A s s0 H locs → lv_has ls 7 [(0, .ref (ad 0)), (1, .int v1), (2, .int v2), (4, .int v4), (5, .int v5), (6, .int v6)] → F_Model_rings_148 k28 k36 k44 s0 v1 v2 v4 v5 v6 t0 = (some (r, τ)) → W p l e rm_Model_rings s m args below meth c H locs 0 0 (MQ below (QcI D cA ad shM A r τ) args s 0 0 A) (F0 m 148 ls [.int t0]) := by
  have hx := K.1.1; have hb := K.1.2.1
  intro H locs ls s0 v1 v2 v4 v5 v6 t0 hw hl hF
  unfold F_Model_rings_148 at hF
  refine lv_istore_n (lv' := [(3, .int t0), (0, .ref (ad 0)), (1, .int v1), (2, .int v2), (4, .int v4), (5, .int v5), (6, .int v6)]) hx hb d_Model_rings_148 rfl hl (by decide) rfl (fun ls hl => ?_)
  refine lv_iinc (v := (v2 + 1)) (lv' := [(2, .int (v2 + 1)), (3, .int t0), (0, .ref (ad 0)), (1, .int v1), (4, .int v4), (5, .int v5), (6, .int v6)]) hx hb d_Model_rings_149 hl (k := 3) rfl rfl (by decide) rfl (fun ls hl => ?_)
  exact q_Model_rings_152 K k28 hk28 k36 hk36 k44 hk44 _ _ _ _ _ _ _ _ _ _  hw (lv_sub hl [2, 3, 0, 1, 4, 5, 6] rfl) hF
noncomputable def F_Model_rings_76 (k28 : (St → Int32 → Int32 → Int32 → Int32 → Option (Int32 × St))) (k36 : (St → Int32 → Int32 → Int32 → Int32 → Int32 → Option (Int32 × St))) : Nat → St → Int32 → Int32 → Int32 → Int32 → Int32 → Int32 → Option (Int32 × St)
  | 0, _, _, _, _, _, _, _ => none
  | n + 1, s0, v1, v2, v3, v4, v5, v6 => (if (s0.1 0 0) ≤ v6 then (k36 s0 v1 v2 v3 v4 (v5 + 1)) else (if inB v4 6 = true then (if inB v5 6 = true then (if inB v6 6 = true then (if ¬ ((((jshr (s0.1 19 v4.toNatClampNeg) v5) &&& (jshr (s0.1 19 v5.toNatClampNeg) v6)) &&& (jshr (s0.1 19 v6.toNatClampNeg) v4)) &&& (1 : Int32)) = (1 : Int32) then (F_Model_rings_152 k28 k36 (fun z0 zv1 zv2 zv3 zv4 zv5 zv6 => F_Model_rings_76 k28 k36 n z0 zv1 zv2 zv3 zv4 zv5 zv6) s0 v1 v2 v3 v4 v5 v6) else (if ¬ v2 = 0 then (F_Model_rings_148 k28 k36 (fun z0 zv1 zv2 zv3 zv4 zv5 zv6 => F_Model_rings_76 k28 k36 n z0 zv1 zv2 zv3 zv4 zv5 zv6) s0 v1 v2 v4 v5 v6 v3) else (F_Model_rings_148 k28 k36 (fun z0 zv1 zv2 zv3 zv4 zv5 zv6 => F_Model_rings_76 k28 k36 n z0 zv1 zv2 zv3 zv4 zv5 zv6) s0 v1 v2 v4 v5 v6 (((((100 : Int32) * v4) + ((10 : Int32) * v5)) + v6) + (111 : Int32))))) else none) else none) else none))
set_option maxHeartbeats 4000000 in
set_option maxRecDepth 100000 in
theorem q_Model_rings_76 (K : Fx p s m args meth c b_Model_rings 7 R_Model (some .int)) (k28 : (St → Int32 → Int32 → Int32 → Int32 → Option (Int32 × St))) (hk28 : ∀ (H : Heap) (locs : List Loc) (ls : Array Slot) (s0 : St) (v1 : Int32) (v2 : Int32) (v3 : Int32) (v4 : Int32), Wh D cA ad shM A s s0 H locs → lv_has ls 7 [(0, .ref (ad 0)), (1, .int v1), (2, .int v2), (3, .int v3), (4, .int v4)] → k28 s0 v1 v2 v3 v4 = (some (r, τ)) → W p l e rm_Model_rings s m args below meth c H locs 0 0 (MQ below (QcI D cA ad shM A r τ) args s 0 0 A) (F0 m 46 ls [])) (k36 : (St → Int32 → Int32 → Int32 → Int32 → Int32 → Option (Int32 × St))) (hk36 : ∀ (H : Heap) (locs : List Loc) (ls : Array Slot) (s0 : St) (v1 : Int32) (v2 : Int32) (v3 : Int32) (v4 : Int32) (v5 : Int32), Wh D cA ad shM A s s0 H locs → lv_has ls 7 [(0, .ref (ad 0)), (1, .int v1), (2, .int v2), (3, .int v3), (4, .int v4), (5, .int v5)] → k36 s0 v1 v2 v3 v4 v5 = (some (r, τ)) → W p l e rm_Model_rings s m args below meth c H locs 0 0 (MQ below (QcI D cA ad shM A r τ) args s 0 0 A) (F0 m 61 ls [])) : ∀ (n : Nat), ∀ (H : Heap) (locs : List Loc) (ls : Array Slot) (s0 : St) (v1 : Int32) (v2 : Int32) (v3 : Int32) (v4 : Int32) (v5 : Int32) (v6 : Int32), Wh D cA ad shM A s s0 H locs → lv_has ls 7 [(0, .ref (ad 0)), (1, .int v1), (2, .int v2), (3, .int v3), (4, .int v4), (5, .int v5), (6, .int v6)] → F_Model_rings_76 k28 k36 n s0 v1 v2 v3 v4 v5 v6 = (some (r, τ)) → W p l e rm_Model_rings s m args below meth c H locs 0 0 (MQ below (QcI D cA ad shM A r τ) args s 0 0 A) (F0 m 76 ls []) := by
  have hx := K.1.1; have hb := K.1.2.1
  intro n
  induction n with
  | zero =>
    intro H locs ls s0 v1 v2 v3 v4 v5 v6 hw hl hF
    exact absurd hF (by rw [F_Model_rings_76]; exact nofun)
  | succ n ih =>
    intro H locs ls s0 v1 v2 v3 v4 v5 v6 hw hl hF
    rw [F_Model_rings_76] at hF
    refine lv_iload hx hb d_Model_rings_76 (lv_at hl 6 rfl) ?_
    refine lv_aload_n hx hb d_Model_rings_78 rfl (lv_at hl 0 rfl) ?_
    refine r_get (v := .int (s0.1 0 0)) K hw i_Model sh_Model rfl 0 (by decide) w_1025 rfl rfl rfl d_Model_rings_79 ?_
    refine lv_icmp_ge (tgt := 158) hx hb d_Model_rings_82 (by decide) (fun c_6 => ?_) (fun c_6 => ?_)
    · replace hF := ifT hF c_6
      refine lv_iinc (v := (v5 + 1)) (lv' := [(5, .int (v5 + 1)), (0, .ref (ad 0)), (1, .int v1), (2, .int v2), (3, .int v3), (4, .int v4), (6, .int v6)]) hx hb d_Model_rings_158 hl (k := 5) rfl rfl (by decide) rfl (fun ls hl => ?_)
      refine lv_goto (tgt := 61) hx hb d_Model_rings_161 (by decide) ?_
      exact hk36 _ _ _ _ _ _ _ _ _  hw (lv_sub hl [1, 2, 3, 4, 5, 0] rfl) hF
    · replace hF := ifF hF c_6
      refine lv_aload_n hx hb d_Model_rings_85 rfl (lv_at hl 0 rfl) ?_
      refine r_get (v := .ref (ad 19)) K hw i_Model sh_Model rfl 44 (by decide) w_1069 rfl rfl rfl d_Model_rings_86 ?_
      refine lv_iload hx hb d_Model_rings_89 (lv_at hl 4 rfl) ?_
      obtain ⟨g_7, hF⟩ := ifG hF
      refine r_iald (k := v4.toNatClampNeg) K hw (show shM[19]? = some (.inr (.inl 6)) from rfl) rfl (inB_vp g_7) d_Model_rings_91 ?_
      refine lv_iload hx hb d_Model_rings_92 (lv_at hl 5 rfl) ?_
      refine lv_ishr hx hb d_Model_rings_94 ?_
      refine lv_aload_n hx hb d_Model_rings_95 rfl (lv_at hl 0 rfl) ?_
      refine r_get (v := .ref (ad 19)) K hw i_Model sh_Model rfl 44 (by decide) w_1069 rfl rfl rfl d_Model_rings_96 ?_
      refine lv_iload hx hb d_Model_rings_99 (lv_at hl 5 rfl) ?_
      obtain ⟨g_8, hF⟩ := ifG hF
      refine r_iald (k := v5.toNatClampNeg) K hw (show shM[19]? = some (.inr (.inl 6)) from rfl) rfl (inB_vp g_8) d_Model_rings_101 ?_
      refine lv_iload hx hb d_Model_rings_102 (lv_at hl 6 rfl) ?_
      refine lv_ishr hx hb d_Model_rings_104 ?_
      refine lv_iand hx hb d_Model_rings_105 ?_
      refine lv_aload_n hx hb d_Model_rings_106 rfl (lv_at hl 0 rfl) ?_
      refine r_get (v := .ref (ad 19)) K hw i_Model sh_Model rfl 44 (by decide) w_1069 rfl rfl rfl d_Model_rings_107 ?_
      refine lv_iload hx hb d_Model_rings_110 (lv_at hl 6 rfl) ?_
      obtain ⟨g_9, hF⟩ := ifG hF
      refine r_iald (k := v6.toNatClampNeg) K hw (show shM[19]? = some (.inr (.inl 6)) from rfl) rfl (inB_vp g_9) d_Model_rings_112 ?_
      refine lv_iload hx hb d_Model_rings_113 (lv_at hl 4 rfl) ?_
      refine lv_ishr hx hb d_Model_rings_115 ?_
      refine lv_iand hx hb d_Model_rings_116 ?_
      refine lv_iconst (v := 1) hx hb d_Model_rings_117 (by decide) ?_
      refine lv_iand hx hb d_Model_rings_118 ?_
      refine lv_iconst (v := 1) hx hb d_Model_rings_119 (by decide) ?_
      refine lv_icmp_ne (tgt := 152) hx hb d_Model_rings_120 (by decide) (fun c_10 => ?_) (fun c_10 => ?_)
      · replace hF := ifT hF c_10
        exact q_Model_rings_152 K k28 hk28 k36 hk36 (fun z0 zv1 zv2 zv3 zv4 zv5 zv6 => F_Model_rings_76 k28 k36 n z0 zv1 zv2 zv3 zv4 zv5 zv6) ih _ _ _ _ _ _ _ _ _ _  hw (lv_sub hl [0, 1, 2, 3, 4, 5, 6] rfl) hF
      · replace hF := ifN hF c_10
        refine lv_iload_n hx hb d_Model_rings_123 rfl (lv_at hl 2 rfl) ?_
        refine lv_if_ne (tgt := 147) hx hb d_Model_rings_124 (by decide) (fun c_11 => ?_) (fun c_11 => ?_)
        · replace hF := ifT hF c_11
          refine lv_iload_n hx hb d_Model_rings_147 rfl (lv_at hl 3 rfl) ?_
          exact q_Model_rings_148 K k28 hk28 k36 hk36 (fun z0 zv1 zv2 zv3 zv4 zv5 zv6 => F_Model_rings_76 k28 k36 n z0 zv1 zv2 zv3 zv4 zv5 zv6) ih _ _ _ _ _ _ _ _ _ _  hw (lv_sub hl [0, 1, 2, 4, 5, 6] rfl) hF
        · replace hF := ifN hF c_11
          refine lv_bipush (v := 100) hx hb d_Model_rings_127 (by decide) ?_
          refine lv_iload hx hb d_Model_rings_129 (lv_at hl 4 rfl) ?_
          refine lv_imul hx hb d_Model_rings_131 ?_
          refine lv_bipush (v := 10) hx hb d_Model_rings_132 (by decide) ?_
          refine lv_iload hx hb d_Model_rings_134 (lv_at hl 5 rfl) ?_
          refine lv_imul hx hb d_Model_rings_136 ?_
          refine lv_iadd hx hb d_Model_rings_137 ?_
          refine lv_iload hx hb d_Model_rings_138 (lv_at hl 6 rfl) ?_
          refine lv_iadd hx hb d_Model_rings_140 ?_
          refine lv_bipush (v := 111) hx hb d_Model_rings_141 (by decide) ?_
          refine lv_iadd hx hb d_Model_rings_143 ?_
          refine lv_goto (tgt := 148) hx hb d_Model_rings_144 (by decide) ?_
          exact q_Model_rings_148 K k28 hk28 k36 hk36 (fun z0 zv1 zv2 zv3 zv4 zv5 zv6 => F_Model_rings_76 k28 k36 n z0 zv1 zv2 zv3 zv4 zv5 zv6) ih _ _ _ _ _ _ _ _ _ _  hw (lv_sub hl [0, 1, 2, 4, 5, 6] rfl) hF
noncomputable def F_Model_rings_61 (k28 : (St → Int32 → Int32 → Int32 → Int32 → Option (Int32 × St))) : Nat → St → Int32 → Int32 → Int32 → Int32 → Int32 → Option (Int32 × St)
  | 0, _, _, _, _, _, _ => none
  | n + 1, s0, v1, v2, v3, v4, v5 => (if (s0.1 0 0) ≤ v5 then (k28 s0 v1 v2 v3 (v4 + 1)) else (F_Model_rings_76 k28 (fun z0 zv1 zv2 zv3 zv4 zv5 => F_Model_rings_61 k28 n z0 zv1 zv2 zv3 zv4 zv5) FU s0 v1 v2 v3 v4 v5 (v4 + (1 : Int32))))
set_option maxHeartbeats 4000000 in
set_option maxRecDepth 100000 in
theorem q_Model_rings_61 (K : Fx p s m args meth c b_Model_rings 7 R_Model (some .int)) (k28 : (St → Int32 → Int32 → Int32 → Int32 → Option (Int32 × St))) (hk28 : ∀ (H : Heap) (locs : List Loc) (ls : Array Slot) (s0 : St) (v1 : Int32) (v2 : Int32) (v3 : Int32) (v4 : Int32), Wh D cA ad shM A s s0 H locs → lv_has ls 7 [(0, .ref (ad 0)), (1, .int v1), (2, .int v2), (3, .int v3), (4, .int v4)] → k28 s0 v1 v2 v3 v4 = (some (r, τ)) → W p l e rm_Model_rings s m args below meth c H locs 0 0 (MQ below (QcI D cA ad shM A r τ) args s 0 0 A) (F0 m 46 ls [])) : ∀ (n : Nat), ∀ (H : Heap) (locs : List Loc) (ls : Array Slot) (s0 : St) (v1 : Int32) (v2 : Int32) (v3 : Int32) (v4 : Int32) (v5 : Int32), Wh D cA ad shM A s s0 H locs → lv_has ls 7 [(0, .ref (ad 0)), (1, .int v1), (2, .int v2), (3, .int v3), (4, .int v4), (5, .int v5)] → F_Model_rings_61 k28 n s0 v1 v2 v3 v4 v5 = (some (r, τ)) → W p l e rm_Model_rings s m args below meth c H locs 0 0 (MQ below (QcI D cA ad shM A r τ) args s 0 0 A) (F0 m 61 ls []) := by
  have hx := K.1.1; have hb := K.1.2.1
  intro n
  induction n with
  | zero =>
    intro H locs ls s0 v1 v2 v3 v4 v5 hw hl hF
    exact absurd hF (by rw [F_Model_rings_61]; exact nofun)
  | succ n ih =>
    intro H locs ls s0 v1 v2 v3 v4 v5 hw hl hF
    rw [F_Model_rings_61] at hF
    refine lv_iload hx hb d_Model_rings_61 (lv_at hl 5 rfl) ?_
    refine lv_aload_n hx hb d_Model_rings_63 rfl (lv_at hl 0 rfl) ?_
    refine r_get (v := .int (s0.1 0 0)) K hw i_Model sh_Model rfl 0 (by decide) w_1025 rfl rfl rfl d_Model_rings_64 ?_
    refine lv_icmp_ge (tgt := 164) hx hb d_Model_rings_67 (by decide) (fun c_5 => ?_) (fun c_5 => ?_)
    · replace hF := ifT hF c_5
      refine lv_iinc (v := (v4 + 1)) (lv' := [(4, .int (v4 + 1)), (0, .ref (ad 0)), (1, .int v1), (2, .int v2), (3, .int v3), (5, .int v5)]) hx hb d_Model_rings_164 hl (k := 4) rfl rfl (by decide) rfl (fun ls hl => ?_)
      refine lv_goto (tgt := 46) hx hb d_Model_rings_167 (by decide) ?_
      exact hk28 _ _ _ _ _ _ _ _  hw (lv_sub hl [1, 2, 3, 4, 0] rfl) hF
    · replace hF := ifF hF c_5
      refine lv_iload hx hb d_Model_rings_70 (lv_at hl 4 rfl) ?_
      refine lv_iconst (v := 1) hx hb d_Model_rings_72 (by decide) ?_
      refine lv_iadd hx hb d_Model_rings_73 ?_
      refine lv_istore (lv' := [(6, .int (v4 + (1 : Int32))), (0, .ref (ad 0)), (1, .int v1), (2, .int v2), (3, .int v3), (4, .int v4), (5, .int v5)]) hx hb d_Model_rings_74 hl (by decide) rfl (fun ls hl => ?_)
      exact q_Model_rings_76 K k28 hk28 (fun z0 zv1 zv2 zv3 zv4 zv5 => F_Model_rings_61 k28 n z0 zv1 zv2 zv3 zv4 zv5) ih FU _ _ _ _ _ _ _ _ _ _  hw (lv_sub hl [1, 2, 3, 4, 5, 6, 0] rfl) hF
noncomputable def F_Model_rings_46 : Nat → St → Int32 → Int32 → Int32 → Int32 → Option (Int32 × St)
  | 0, _, _, _, _, _ => none
  | n + 1, s0, v1, v2, v3, v4 => (if (s0.1 0 0) ≤ v4 then (if ¬ v1 = 0 then (some (v3, s0)) else (some (v2, s0))) else (F_Model_rings_61 (fun z0 zv1 zv2 zv3 zv4 => F_Model_rings_46 n z0 zv1 zv2 zv3 zv4) FU s0 v1 v2 v3 v4 (v4 + (1 : Int32))))
set_option maxHeartbeats 4000000 in
set_option maxRecDepth 100000 in
theorem q_Model_rings_46 (K : Fx p s m args meth c b_Model_rings 7 R_Model (some .int))  : ∀ (n : Nat), ∀ (H : Heap) (locs : List Loc) (ls : Array Slot) (s0 : St) (v1 : Int32) (v2 : Int32) (v3 : Int32) (v4 : Int32), Wh D cA ad shM A s s0 H locs → lv_has ls 7 [(0, .ref (ad 0)), (1, .int v1), (2, .int v2), (3, .int v3), (4, .int v4)] → F_Model_rings_46 n s0 v1 v2 v3 v4 = (some (r, τ)) → W p l e rm_Model_rings s m args below meth c H locs 0 0 (MQ below (QcI D cA ad shM A r τ) args s 0 0 A) (F0 m 46 ls []) := by
  have hx := K.1.1; have hb := K.1.2.1
  intro n
  induction n with
  | zero =>
    intro H locs ls s0 v1 v2 v3 v4 hw hl hF
    exact absurd hF (by rw [F_Model_rings_46]; exact nofun)
  | succ n ih =>
    intro H locs ls s0 v1 v2 v3 v4 hw hl hF
    rw [F_Model_rings_46] at hF
    refine lv_iload hx hb d_Model_rings_46 (lv_at hl 4 rfl) ?_
    refine lv_aload_n hx hb d_Model_rings_48 rfl (lv_at hl 0 rfl) ?_
    refine r_get (v := .int (s0.1 0 0)) K hw i_Model sh_Model rfl 0 (by decide) w_1025 rfl rfl rfl d_Model_rings_49 ?_
    refine lv_icmp_ge (tgt := 170) hx hb d_Model_rings_52 (by decide) (fun c_3 => ?_) (fun c_3 => ?_)
    · replace hF := ifT hF c_3
      refine lv_iload_n hx hb d_Model_rings_170 rfl (lv_at hl 1 rfl) ?_
      refine lv_if_ne (tgt := 178) hx hb d_Model_rings_171 (by decide) (fun c_4 => ?_) (fun c_4 => ?_)
      · replace hF := ifT hF c_4
        refine lv_iload_n hx hb d_Model_rings_178 rfl (lv_at hl 3 rfl) ?_
        obtain ⟨hF, hG⟩ := sE2 hF
        subst hF
        subst hG
        exact r_iret K hw d_Model_rings_179
      · replace hF := ifN hF c_4
        refine lv_iload_n hx hb d_Model_rings_174 rfl (lv_at hl 2 rfl) ?_
        refine lv_goto (tgt := 179) hx hb d_Model_rings_175 (by decide) ?_
        obtain ⟨hF, hG⟩ := sE2 hF
        subst hF
        subst hG
        exact r_iret K hw d_Model_rings_179
    · replace hF := ifF hF c_3
      refine lv_iload hx hb d_Model_rings_55 (lv_at hl 4 rfl) ?_
      refine lv_iconst (v := 1) hx hb d_Model_rings_57 (by decide) ?_
      refine lv_iadd hx hb d_Model_rings_58 ?_
      refine lv_istore (lv' := [(5, .int (v4 + (1 : Int32))), (0, .ref (ad 0)), (1, .int v1), (2, .int v2), (3, .int v3), (4, .int v4)]) hx hb d_Model_rings_59 hl (by decide) rfl (fun ls hl => ?_)
      exact q_Model_rings_61 K (fun z0 zv1 zv2 zv3 zv4 => F_Model_rings_46 n z0 zv1 zv2 zv3 zv4) ih FU _ _ _ _ _ _ _ _ _  hw (lv_sub hl [1, 2, 3, 4, 5, 0] rfl) hF
noncomputable def F_Model_rings_14 : Nat → St → Int32 → Int32 → Option (Int32 × St)
  | 0, _, _, _ => none
  | n + 1, s0, v1, v2 => (if (s0.1 0 0) ≤ v2 then (F_Model_rings_46 FU s0 v1 (0 : Int32) (-1 : Int32) (0 : Int32)) else (ob2 (F_Model_beatenBy s0 v2) (fun r_12 s_13 => (if inB v2 6 = true then (lt (up1 s_13 19 v2.toNatClampNeg r_12) (fun s_15 => (F_Model_rings_14 n s_15 v1 (v2 + 1)))) else none))))
set_option maxHeartbeats 4000000 in
set_option maxRecDepth 100000 in
theorem q_Model_rings_14 (K : Fx p s m args meth c b_Model_rings 7 R_Model (some .int))  : ∀ (n : Nat), ∀ (H : Heap) (locs : List Loc) (ls : Array Slot) (s0 : St) (v1 : Int32) (v2 : Int32), Wh D cA ad shM A s s0 H locs → lv_has ls 7 [(0, .ref (ad 0)), (1, .int v1), (2, .int v2)] → F_Model_rings_14 n s0 v1 v2 = (some (r, τ)) → W p l e rm_Model_rings s m args below meth c H locs 0 0 (MQ below (QcI D cA ad shM A r τ) args s 0 0 A) (F0 m 14 ls []) := by
  have hx := K.1.1; have hb := K.1.2.1
  intro n
  induction n with
  | zero =>
    intro H locs ls s0 v1 v2 hw hl hF
    exact absurd hF (by rw [F_Model_rings_14]; exact nofun)
  | succ n ih =>
    intro H locs ls s0 v1 v2 hw hl hF
    rw [F_Model_rings_14] at hF
    refine lv_iload_n hx hb d_Model_rings_14 rfl (lv_at hl 2 rfl) ?_
    refine lv_aload_n hx hb d_Model_rings_15 rfl (lv_at hl 0 rfl) ?_
    refine r_get (v := .int (s0.1 0 0)) K hw i_Model sh_Model rfl 0 (by decide) w_1025 rfl rfl rfl d_Model_rings_16 ?_
    refine lv_icmp_ge (tgt := 39) hx hb d_Model_rings_19 (by decide) (fun c_2 => ?_) (fun c_2 => ?_)
    · replace hF := ifT hF c_2
      refine lv_iconst (v := 0) hx hb d_Model_rings_39 (by decide) ?_
      refine lv_istore_n (lv' := [(2, .int (0 : Int32)), (0, .ref (ad 0)), (1, .int v1)]) hx hb d_Model_rings_40 rfl hl (by decide) rfl (fun ls hl => ?_)
      refine lv_iconst (v := -1) hx hb d_Model_rings_41 (by decide) ?_
      refine lv_istore_n (lv' := [(3, .int (-1 : Int32)), (2, .int (0 : Int32)), (0, .ref (ad 0)), (1, .int v1)]) hx hb d_Model_rings_42 rfl hl (by decide) rfl (fun ls hl => ?_)
      refine lv_iconst (v := 0) hx hb d_Model_rings_43 (by decide) ?_
      refine lv_istore (lv' := [(4, .int (0 : Int32)), (3, .int (-1 : Int32)), (2, .int (0 : Int32)), (0, .ref (ad 0)), (1, .int v1)]) hx hb d_Model_rings_44 hl (by decide) rfl (fun ls hl => ?_)
      exact q_Model_rings_46 K FU _ _ _ _ _ _ _ _  hw (lv_sub hl [3, 4, 2, 1, 0] rfl) hF
    · replace hF := ifF hF c_2
      refine lv_aload_n hx hb d_Model_rings_22 rfl (lv_at hl 0 rfl) ?_
      refine r_get (v := .ref (ad 19)) K hw i_Model sh_Model rfl 44 (by decide) w_1069 rfl rfl rfl d_Model_rings_23 ?_
      refine lv_iload_n hx hb d_Model_rings_26 rfl (lv_at hl 2 rfl) ?_
      refine lv_aload_n hx hb d_Model_rings_27 rfl (lv_at hl 0 rfl) ?_
      refine lv_iload_n hx hb d_Model_rings_28 rfl (lv_at hl 2 rfl) ?_
      obtain ⟨r_12, s_13, h_s_13, hF⟩ := ob2E hF
      refine r_callVI (As := [.int v2]) (rest := [.int v2, .ref (ad 19)]) K hw hl.1 (c_Model_beatenBy (l := l) (D := D) (cA := cA) (ad := ad) (s0 := s0)   h_s_13) sh_Model rfl (tb_gV w_1315 w_1317 w_55 w_80 w_1318) a_Model_beatenBy ⟨rfl, rfl, Nat.le_of_ble_eq_true rfl, Nat.le_of_ble_eq_true rfl⟩ rfl rfl (Nat.le_of_ble_eq_true rfl) d_Model_rings_29 (fun H locs hw => ?_)
      obtain ⟨g_14, hF⟩ := ifG hF
      refine r_iast (k := v2.toNatClampNeg) K hw (show shM[19]? = some (.inr (.inl 6)) from rfl) rfl (inB_vp g_14) d_Model_rings_32 (fun s_15 f_s_15 H locs hw => ?_)
      replace hF := ltN hF f_s_15
      refine lv_iinc (v := (v2 + 1)) (lv' := [(2, .int (v2 + 1)), (0, .ref (ad 0)), (1, .int v1)]) hx hb d_Model_rings_33 hl (k := 2) rfl rfl (by decide) rfl (fun ls hl => ?_)
      refine lv_goto (tgt := 14) hx hb d_Model_rings_36 (by decide) ?_
      exact ih _ _ _ _ _ _  hw (lv_sub hl [1, 2, 0] rfl) hF
noncomputable def F_Model_rings_0 (s0 : St) (v1 : Int32) : Option (Int32 × St) := (if ¬ (F_Model_in v1 (0 : Int32) (1 : Int32)) = 0 then (F_Model_rings_14 FU s0 v1 (0 : Int32)) else (some ((-2 : Int32), s0)))
set_option maxHeartbeats 4000000 in
set_option maxRecDepth 100000 in
theorem q_Model_rings_0 (K : Fx p s m args meth c b_Model_rings 7 R_Model (some .int))  : ∀ (H : Heap) (locs : List Loc) (ls : Array Slot) (s0 : St) (v1 : Int32), Wh D cA ad shM A s s0 H locs → lv_has ls 7 [(0, .ref (ad 0)), (1, .int v1)] → F_Model_rings_0 s0 v1 = (some (r, τ)) → W p l e rm_Model_rings s m args below meth c H locs 0 0 (MQ below (QcI D cA ad shM A r τ) args s 0 0 A) (F0 m 0 ls []) := by
  have hx := K.1.1; have hb := K.1.2.1
  intro H locs ls s0 v1 hw hl hF
  unfold F_Model_rings_0 at hF
  refine lv_iload_n hx hb d_Model_rings_0 rfl (lv_at hl 1 rfl) ?_
  refine lv_iconst (v := 0) hx hb d_Model_rings_1 (by decide) ?_
  refine lv_iconst (v := 1) hx hb d_Model_rings_2 (by decide) ?_
  refine r_callSI (As := [.int v1, .int (0 : Int32), .int (1 : Int32)]) (rest := []) K hw hl.1 (c_Model_in (l := l) (D := D) (cA := cA) (ad := ad) (s0 := s0)   rfl) (tb_gS w_986 w_987 w_80 w_988) a_Model_in ⟨rfl, rfl, Nat.le_of_ble_eq_true rfl, Nat.le_of_ble_eq_true rfl⟩ rfl rfl (Nat.le_of_ble_eq_true rfl) d_Model_rings_3 (fun H locs hw => ?_)
  refine lv_if_ne (tgt := 12) hx hb d_Model_rings_6 (by decide) (fun c_1 => ?_) (fun c_1 => ?_)
  · replace hF := ifT hF c_1
    refine lv_iconst (v := 0) hx hb d_Model_rings_12 (by decide) ?_
    refine lv_istore_n (lv' := [(2, .int (0 : Int32)), (0, .ref (ad 0)), (1, .int v1)]) hx hb d_Model_rings_13 rfl hl (by decide) rfl (fun ls hl => ?_)
    exact q_Model_rings_14 K FU _ _ _ _ _ _  hw (lv_sub hl [1, 2, 0] rfl) hF
  · replace hF := ifN hF c_1
    refine lv_bipush (v := -2) hx hb d_Model_rings_9 (by decide) ?_
    obtain ⟨hF, hG⟩ := sE2 hF
    subst hF
    subst hG
    exact r_iret K hw d_Model_rings_11
end S_Model_rings
noncomputable abbrev F_Model_rings := F_Model_rings_0
theorem c_Model_rings {l : Launch} {D : va_G} {cA : Nat → ClassId} {ad : Nat → Nat} {s0 τ : St} {r : Int32} {v1 : Int32}  (hF : F_Model_rings s0 v1 = (some (r, τ))) : MI l D cA ad shM y_Model_rings (wT y_Model_rings b_Model_rings 7 (some .int)) rm_Model_rings [.ref (ad 0), .int v1] s0 r τ := fun sz => m_start (Qc := fun A => QcI D cA ad shM A r τ) (by decide +kernel) w_1326 (Nat.le_of_ble_eq_true rfl) (fun p e s m below meth c ls K hl hw => q_Model_rings_0 K _ _ _ _ _  hw hl hF)

/-! Model.sheetWrong(I)I -/
abbrev b_Model_sheetWrong : ByteArray := prog_13_method_58_code
def y_Model_sheetWrong : MethodName := ⟨R_Model, "sheetWrong", "(I)I"⟩
theorem a_Model_sheetWrong : y_Model_sheetWrong.cls = R_Model ∧ y_Model_sheetWrong.cls ≠ "java/lang/invoke/MethodHandle" ∧ y_Model_sheetWrong.cls ≠ "java/lang/invoke/VarHandle" ∧ (parseMethodDescriptor y_Model_sheetWrong.desc).map (fun d => d.parameters.length) = some 1 := by decide +kernel
abbrev rm_Model_sheetWrong : Room := { frames := 1, cells := 0, slots := 0, locals := 22 }
theorem w_1042 : Cond.fieldLink R_Model 40 R_Model "sheetSort" "[I" ∈ TB := tb_in 1042 (by decide +kernel) (by decide +kernel)
theorem w_1043 : Cond.fieldLink R_Model 43 R_Model "sheetSize" "[I" ∈ TB := tb_in 1043 (by decide +kernel) (by decide +kernel)
theorem w_1338 : Cond.code y_Model_sheetWrong b_Model_sheetWrong 2 (some .int) ∈ TB := tb_in 1338 (by decide +kernel) (by decide +kernel)
theorem d_Model_sheetWrong_0 : decode b_Model_sheetWrong 0 = .ok (.iload_n 1, 1) := by decide +kernel
theorem d_Model_sheetWrong_1 : decode b_Model_sheetWrong 1 = .ok (.iconst 0, 1) := by decide +kernel
theorem d_Model_sheetWrong_2 : decode b_Model_sheetWrong 2 = .ok (.iconst 3, 1) := by decide +kernel
theorem d_Model_sheetWrong_3 : decode b_Model_sheetWrong 3 = .ok (.invokestatic 78, 3) := by decide +kernel
theorem d_Model_sheetWrong_6 : decode b_Model_sheetWrong 6 = .ok (.ifCond .ne 6, 3) := by decide +kernel
theorem d_Model_sheetWrong_9 : decode b_Model_sheetWrong 9 = .ok (.bipush (-2), 2) := by decide +kernel
theorem d_Model_sheetWrong_11 : decode b_Model_sheetWrong 11 = .ok (.ireturn, 1) := by decide +kernel
theorem d_Model_sheetWrong_12 : decode b_Model_sheetWrong 12 = .ok (.aload_n 0, 1) := by decide +kernel
theorem d_Model_sheetWrong_13 : decode b_Model_sheetWrong 13 = .ok (.getfield 40, 3) := by decide +kernel
theorem d_Model_sheetWrong_16 : decode b_Model_sheetWrong 16 = .ok (.iload_n 1, 1) := by decide +kernel
theorem d_Model_sheetWrong_17 : decode b_Model_sheetWrong 17 = .ok (.iaload, 1) := by decide +kernel
theorem d_Model_sheetWrong_18 : decode b_Model_sheetWrong 18 = .ok (.iconst (-1), 1) := by decide +kernel
theorem d_Model_sheetWrong_19 : decode b_Model_sheetWrong 19 = .ok (.if_icmp .ne 6, 3) := by decide +kernel
theorem d_Model_sheetWrong_22 : decode b_Model_sheetWrong 22 = .ok (.bipush (-11), 2) := by decide +kernel
theorem d_Model_sheetWrong_24 : decode b_Model_sheetWrong 24 = .ok (.ireturn, 1) := by decide +kernel
theorem d_Model_sheetWrong_25 : decode b_Model_sheetWrong 25 = .ok (.aload_n 0, 1) := by decide +kernel
theorem d_Model_sheetWrong_26 : decode b_Model_sheetWrong 26 = .ok (.getfield 43, 3) := by decide +kernel
theorem d_Model_sheetWrong_29 : decode b_Model_sheetWrong 29 = .ok (.iload_n 1, 1) := by decide +kernel
theorem d_Model_sheetWrong_30 : decode b_Model_sheetWrong 30 = .ok (.iaload, 1) := by decide +kernel
theorem d_Model_sheetWrong_31 : decode b_Model_sheetWrong 31 = .ok (.bipush 8, 2) := by decide +kernel
theorem d_Model_sheetWrong_33 : decode b_Model_sheetWrong 33 = .ok (.if_icmp .le 8, 3) := by decide +kernel
theorem d_Model_sheetWrong_36 : decode b_Model_sheetWrong 36 = .ok (.bipush (-2), 2) := by decide +kernel
theorem d_Model_sheetWrong_38 : decode b_Model_sheetWrong 38 = .ok (.goto 4, 3) := by decide +kernel
theorem d_Model_sheetWrong_41 : decode b_Model_sheetWrong 41 = .ok (.iconst 0, 1) := by decide +kernel
theorem d_Model_sheetWrong_42 : decode b_Model_sheetWrong 42 = .ok (.ireturn, 1) := by decide +kernel
section S_Model_sheetWrong
variable {p : Program} {l : Launch} {e : Env} {s : State} {m : MethodId} {args : Array Value} {below : List Frame} {meth : Method} {c : Code} {D : va_G} {cA : Nat → ClassId} {ad : Nat → Nat} {nC : Nat} {A : Nat → Prop} {r : Int32} {τ : St}
noncomputable def F_Model_sheetWrong_0 (s0 : St) (v1 : Int32) : Option Int32 := (if ¬ (F_Model_in v1 (0 : Int32) (3 : Int32)) = 0 then (if inB v1 4 = true then (if ¬ (s0.1 11 v1.toNatClampNeg) = (-1 : Int32) then (if inB v1 4 = true then (if (s0.1 12 v1.toNatClampNeg) ≤ (8 : Int32) then (some (0 : Int32)) else (some (-2 : Int32))) else none) else (some (-11 : Int32))) else none) else (some (-2 : Int32)))
set_option maxHeartbeats 4000000 in
set_option maxRecDepth 100000 in
theorem q_Model_sheetWrong_0 (s0 : St) (K : Fx p s m args meth c b_Model_sheetWrong 2 R_Model (some .int))  : ∀ (H : Heap) (locs : List Loc) (ls : Array Slot) (v1 : Int32), Wh D cA ad shM A s s0 H locs → lv_has ls 2 [(0, .ref (ad 0)), (1, .int v1)] → F_Model_sheetWrong_0 s0 v1 = (some r) → W p l e rm_Model_sheetWrong s m args below meth c H locs 0 0 (MQ below (QcI D cA ad shM A r s0) args s 0 0 A) (F0 m 0 ls []) := by
  have hx := K.1.1; have hb := K.1.2.1
  intro H locs ls v1 hw hl hF
  unfold F_Model_sheetWrong_0 at hF
  refine lv_iload_n hx hb d_Model_sheetWrong_0 rfl (lv_at hl 1 rfl) ?_
  refine lv_iconst (v := 0) hx hb d_Model_sheetWrong_1 (by decide) ?_
  refine lv_iconst (v := 3) hx hb d_Model_sheetWrong_2 (by decide) ?_
  refine r_callSI (As := [.int v1, .int (0 : Int32), .int (3 : Int32)]) (rest := []) K hw hl.1 (c_Model_in (l := l) (D := D) (cA := cA) (ad := ad) (s0 := s0)   rfl) (tb_gS w_986 w_987 w_80 w_988) a_Model_in ⟨rfl, rfl, Nat.le_of_ble_eq_true rfl, Nat.le_of_ble_eq_true rfl⟩ rfl rfl (Nat.le_of_ble_eq_true rfl) d_Model_sheetWrong_3 (fun H locs hw => ?_)
  refine lv_if_ne (tgt := 12) hx hb d_Model_sheetWrong_6 (by decide) (fun c_1 => ?_) (fun c_1 => ?_)
  · replace hF := ifT hF c_1
    refine lv_aload_n hx hb d_Model_sheetWrong_12 rfl (lv_at hl 0 rfl) ?_
    refine r_get (v := .ref (ad 11)) K hw i_Model sh_Model rfl 17 (by decide) w_1042 rfl rfl rfl d_Model_sheetWrong_13 ?_
    refine lv_iload_n hx hb d_Model_sheetWrong_16 rfl (lv_at hl 1 rfl) ?_
    obtain ⟨g_2, hF⟩ := ifG hF
    refine r_iald (k := v1.toNatClampNeg) K hw (show shM[11]? = some (.inr (.inl 4)) from rfl) rfl (inB_vp g_2) d_Model_sheetWrong_17 ?_
    refine lv_iconst (v := -1) hx hb d_Model_sheetWrong_18 (by decide) ?_
    refine lv_icmp_ne (tgt := 25) hx hb d_Model_sheetWrong_19 (by decide) (fun c_3 => ?_) (fun c_3 => ?_)
    · replace hF := ifT hF c_3
      refine lv_aload_n hx hb d_Model_sheetWrong_25 rfl (lv_at hl 0 rfl) ?_
      refine r_get (v := .ref (ad 12)) K hw i_Model sh_Model rfl 18 (by decide) w_1043 rfl rfl rfl d_Model_sheetWrong_26 ?_
      refine lv_iload_n hx hb d_Model_sheetWrong_29 rfl (lv_at hl 1 rfl) ?_
      obtain ⟨g_4, hF⟩ := ifG hF
      refine r_iald (k := v1.toNatClampNeg) K hw (show shM[12]? = some (.inr (.inl 4)) from rfl) rfl (inB_vp g_4) d_Model_sheetWrong_30 ?_
      refine lv_bipush (v := 8) hx hb d_Model_sheetWrong_31 (by decide) ?_
      refine lv_icmp_le (tgt := 41) hx hb d_Model_sheetWrong_33 (by decide) (fun c_5 => ?_) (fun c_5 => ?_)
      · replace hF := ifT hF c_5
        refine lv_iconst (v := 0) hx hb d_Model_sheetWrong_41 (by decide) ?_
        replace hF := sE1 hF
        subst hF
        exact r_iret K hw d_Model_sheetWrong_42
      · replace hF := ifF hF c_5
        refine lv_bipush (v := -2) hx hb d_Model_sheetWrong_36 (by decide) ?_
        refine lv_goto (tgt := 42) hx hb d_Model_sheetWrong_38 (by decide) ?_
        replace hF := sE1 hF
        subst hF
        exact r_iret K hw d_Model_sheetWrong_42
    · replace hF := ifN hF c_3
      refine lv_bipush (v := -11) hx hb d_Model_sheetWrong_22 (by decide) ?_
      replace hF := sE1 hF
      subst hF
      exact r_iret K hw d_Model_sheetWrong_24
  · replace hF := ifN hF c_1
    refine lv_bipush (v := -2) hx hb d_Model_sheetWrong_9 (by decide) ?_
    replace hF := sE1 hF
    subst hF
    exact r_iret K hw d_Model_sheetWrong_11
end S_Model_sheetWrong
noncomputable abbrev F_Model_sheetWrong := F_Model_sheetWrong_0
theorem c_Model_sheetWrong {l : Launch} {D : va_G} {cA : Nat → ClassId} {ad : Nat → Nat} {s0 : St} {r : Int32} {v1 : Int32}  (hF : F_Model_sheetWrong s0 v1 = (some r)) : MI l D cA ad shM y_Model_sheetWrong (wT y_Model_sheetWrong b_Model_sheetWrong 2 (some .int)) rm_Model_sheetWrong [.ref (ad 0), .int v1] s0 r s0 := fun sz => m_start (Qc := fun A => QcI D cA ad shM A r s0) (by decide +kernel) w_1338 (Nat.le_of_ble_eq_true rfl) (fun p e s m below meth c ls K hl hw => q_Model_sheetWrong_0 s0 K _ _ _ _  hw hl hF)
