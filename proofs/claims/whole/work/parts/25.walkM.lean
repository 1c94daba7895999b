/-! Model.whom(II)I -/
abbrev b_Model_whom : ByteArray := prog_13_method_64_code
def y_Model_whom : MethodName := ⟨R_Model, "whom", "(II)I"⟩
abbrev rm_Model_whom : Room := { frames := 8, cells := 0, slots := 0, locals := 200 }
theorem a_Model_whom : y_Model_whom.cls = R_Model ∧ y_Model_whom.cls ≠ "java/lang/invoke/MethodHandle" ∧ y_Model_whom.cls ≠ "java/lang/invoke/VarHandle" ∧ (parseMethodDescriptor y_Model_whom.desc).map (fun d => d.parameters.length) = some 2 := by decide +kernel
theorem w_1354 : Cond.code y_Model_whom b_Model_whom 6 (some .int) ∈ TB := tb_in 1354 (by decide +kernel) (by decide +kernel)
theorem d_Model_whom_0 : decode b_Model_whom 0 = .ok (.aload_n 0, 1) := by decide +kernel
theorem d_Model_whom_1 : decode b_Model_whom 1 = .ok (.iload_n 1, 1) := by decide +kernel
theorem d_Model_whom_2 : decode b_Model_whom 2 = .ok (.invokevirtual 263, 3) := by decide +kernel
theorem d_Model_whom_5 : decode b_Model_whom 5 = .ok (.istore_n 3, 1) := by decide +kernel
theorem d_Model_whom_6 : decode b_Model_whom 6 = .ok (.iload_n 3, 1) := by decide +kernel
theorem d_Model_whom_7 : decode b_Model_whom 7 = .ok (.ifCond .ne 11, 3) := by decide +kernel
theorem d_Model_whom_10 : decode b_Model_whom 10 = .ok (.aload_n 0, 1) := by decide +kernel
theorem d_Model_whom_11 : decode b_Model_whom 11 = .ok (.iload_n 2, 1) := by decide +kernel
theorem d_Model_whom_12 : decode b_Model_whom 12 = .ok (.invokevirtual 82, 3) := by decide +kernel
theorem d_Model_whom_15 : decode b_Model_whom 15 = .ok (.ifCond .ne 14, 3) := by decide +kernel
theorem d_Model_whom_18 : decode b_Model_whom 18 = .ok (.iload_n 3, 1) := by decide +kernel
theorem d_Model_whom_19 : decode b_Model_whom 19 = .ok (.ifCond .eq 7, 3) := by decide +kernel
theorem d_Model_whom_22 : decode b_Model_whom 22 = .ok (.iload_n 3, 1) := by decide +kernel
theorem d_Model_whom_23 : decode b_Model_whom 23 = .ok (.goto 5, 3) := by decide +kernel
theorem d_Model_whom_26 : decode b_Model_whom 26 = .ok (.bipush (-5), 2) := by decide +kernel
theorem d_Model_whom_28 : decode b_Model_whom 28 = .ok (.ireturn, 1) := by decide +kernel
theorem d_Model_whom_29 : decode b_Model_whom 29 = .ok (.iconst 0, 1) := by decide +kernel
theorem d_Model_whom_30 : decode b_Model_whom 30 = .ok (.istore 4, 2) := by decide +kernel
theorem d_Model_whom_32 : decode b_Model_whom 32 = .ok (.iconst 0, 1) := by decide +kernel
theorem d_Model_whom_33 : decode b_Model_whom 33 = .ok (.istore 5, 2) := by decide +kernel
theorem d_Model_whom_35 : decode b_Model_whom 35 = .ok (.iload 5, 2) := by decide +kernel
theorem d_Model_whom_37 : decode b_Model_whom 37 = .ok (.aload_n 0, 1) := by decide +kernel
theorem d_Model_whom_38 : decode b_Model_whom 38 = .ok (.getfield 75, 3) := by decide +kernel
theorem d_Model_whom_41 : decode b_Model_whom 41 = .ok (.if_icmp .ge 40, 3) := by decide +kernel
theorem d_Model_whom_44 : decode b_Model_whom 44 = .ok (.iload 4, 2) := by decide +kernel
theorem d_Model_whom_46 : decode b_Model_whom 46 = .ok (.iload 5, 2) := by decide +kernel
theorem d_Model_whom_48 : decode b_Model_whom 48 = .ok (.iload_n 2, 1) := by decide +kernel
theorem d_Model_whom_49 : decode b_Model_whom 49 = .ok (.if_icmp .eq 22, 3) := by decide +kernel
theorem d_Model_whom_52 : decode b_Model_whom 52 = .ok (.aload_n 0, 1) := by decide +kernel
theorem d_Model_whom_53 : decode b_Model_whom 53 = .ok (.iload_n 1, 1) := by decide +kernel
theorem d_Model_whom_54 : decode b_Model_whom 54 = .ok (.iload_n 2, 1) := by decide +kernel
theorem d_Model_whom_55 : decode b_Model_whom 55 = .ok (.iload 5, 2) := by decide +kernel
theorem d_Model_whom_57 : decode b_Model_whom 57 = .ok (.invokevirtual 272, 3) := by decide +kernel
theorem d_Model_whom_60 : decode b_Model_whom 60 = .ok (.iconst (-1), 1) := by decide +kernel
theorem d_Model_whom_61 : decode b_Model_whom 61 = .ok (.if_icmp .ne 10, 3) := by decide +kernel
theorem d_Model_whom_64 : decode b_Model_whom 64 = .ok (.iconst 1, 1) := by decide +kernel
theorem d_Model_whom_65 : decode b_Model_whom 65 = .ok (.iload 5, 2) := by decide +kernel
theorem d_Model_whom_67 : decode b_Model_whom 67 = .ok (.ishl, 1) := by decide +kernel
theorem d_Model_whom_68 : decode b_Model_whom 68 = .ok (.goto 4, 3) := by decide +kernel
theorem d_Model_whom_71 : decode b_Model_whom 71 = .ok (.iconst 0, 1) := by decide +kernel
theorem d_Model_whom_72 : decode b_Model_whom 72 = .ok (.ior, 1) := by decide +kernel
theorem d_Model_whom_73 : decode b_Model_whom 73 = .ok (.istore 4, 2) := by decide +kernel
theorem d_Model_whom_75 : decode b_Model_whom 75 = .ok (.iinc 5 1, 3) := by decide +kernel
theorem d_Model_whom_78 : decode b_Model_whom 78 = .ok (.goto (-43), 3) := by decide +kernel
theorem d_Model_whom_81 : decode b_Model_whom 81 = .ok (.iload 4, 2) := by decide +kernel
theorem d_Model_whom_83 : decode b_Model_whom 83 = .ok (.ireturn, 1) := by decide +kernel
section S_Model_whom
variable {p : Program} {l : Launch} {e : Env} {s : State} {m : MethodId} {args : Array Value} {below : List Frame} {meth : Method} {c : Code} {D : va_G} {cA : Nat → ClassId} {ad : Nat → Nat} {A : Nat → Prop} {r : Int32} {τ : St}
def F_Model_whom_18 (s0 : St) (v3 : Int32) : Option (Int32 × St) := (if v3 = 0 then (some ((-5 : Int32), s0)) else (some (v3, s0)))
set_option maxHeartbeats 4000000 in
set_option maxRecDepth 100000 in
theorem q_Model_whom_18 (K : Fx p s m args meth c b_Model_whom 6 R_Model (some .int))  : ∀ (H : Heap) (locs : List Loc) (ls : Array Slot) (s0 : St) (v3 : Int32), Wh D cA ad shM A s s0 H locs → lv_has ls 6 [(3, .int v3)] → F_Model_whom_18 s0 v3 = (some (r, τ)) → W p l e rm_Model_whom s m args below meth c H locs 0 0 (MQ below (QcI D cA ad shM A r τ) args s 0 0 A) (F0 m 18 ls []) := by
  have hx := K.1.1; have hb := K.1.2.1
  intro H locs ls s0 v3 hw hl hF
  unfold F_Model_whom_18 at hF
  refine lv_iload_n hx hb d_Model_whom_18 rfl (lv_at hl 0 rfl) ?_
  refine lv_if_eq (tgt := 26) hx hb d_Model_whom_19 (by decide) (fun c_3 => ?_) (fun c_3 => ?_)
  · replace hF := ifT hF c_3
    refine lv_bipush (v := -5) hx hb d_Model_whom_26 (by decide) ?_
    cases hF
    exact r_iret K hw d_Model_whom_28
  · replace hF := ifF hF c_3
    refine lv_iload_n hx hb d_Model_whom_22 rfl (lv_at hl 0 rfl) ?_
    refine lv_goto (tgt := 28) hx hb d_Model_whom_23 (by decide) ?_
    cases hF
    exact r_iret K hw d_Model_whom_28
def F_Model_whom_72 (k20 : (St → Int32 → Int32 → Int32 → Int32 → Option (Int32 × St))) (s0 : St) (v1 : Int32) (v2 : Int32) (v5 : Int32) (t0 : Int32) (t1 : Int32) : Option (Int32 × St) := (k20 s0 v1 v2 (t0 ||| t1) (v5 + 1))
set_option maxHeartbeats 4000000 in
set_option maxRecDepth 100000 in
theorem q_Model_whom_72 (K : Fx p s m args meth c b_Model_whom 6 R_Model (some .int)) (k20 : (St → Int32 → Int32 → Int32 → Int32 → Option (Int32 × St))) (hk20 : ∀ (H : Heap) (locs : List Loc) (ls : Array Slot) (s0 : St) (v1 : Int32) (v2 : Int32) (v4 : Int32) (v5 : Int32), Wh D cA ad shM A s s0 H locs → lv_has ls 6 [(0, .ref (ad 0)), (1, .int v1), (2, .int v2), (4, .int v4), (5, .int v5)] → k20 s0 v1 v2 v4 v5 = (some (r, τ)) → W p l e rm_Model_whom s m args below meth c H locs 0 0 (MQ below (QcI D cA ad shM A r τ) args s 0 0 A) (F0 m 35 ls [])) : ∀ (H : Heap) (locs : List Loc) (ls : Array Slot) (s0 : St) (v1 : Int32) (v2 : Int32) (v5 : Int32) (t0 : Int32) (t1 : Int32), Wh D cA ad shM A s s0 H locs → lv_has ls 6 [(0, .ref (ad 0)), (1, .int v1), (2, .int v2), (5, .int v5)] → F_Model_whom_72 k20 s0 v1 v2 v5 t0 t1 = (some (r, τ)) → W p l e rm_Model_whom s m args below meth c H locs 0 0 (MQ below (QcI D cA ad shM A r τ) args s 0 0 A) (F0 m 72 ls [.int t1, .int t0]) := by
  have hx := K.1.1; have hb := K.1.2.1
  intro H locs ls s0 v1 v2 v5 t0 t1 hw hl hF
  unfold F_Model_whom_72 at hF
  refine lv_ior hx hb d_Model_whom_72 ?_
  refine lv_istore (lv' := [(4, .int (t0 ||| t1)), (0, .ref (ad 0)), (1, .int v1), (2, .int v2), (5, .int v5)]) hx hb d_Model_whom_73 hl (by decide) rfl (fun ls hl => ?_)
  refine lv_iinc (v := (v5 + 1)) (lv' := [(5, .int (v5 + 1)), (4, .int (t0 ||| t1)), (0, .ref (ad 0)), (1, .int v1), (2, .int v2)]) hx hb d_Model_whom_75 hl (k := 4) rfl rfl (by decide) rfl (fun ls hl => ?_)
  refine lv_goto (tgt := 35) hx hb d_Model_whom_78 (by decide) ?_
  exact hk20 _ _ _ _ _ _ _ _  hw (lv_sub hl [2, 3, 4, 1, 0] rfl) hF
def F_Model_whom_71 (k20 : (St → Int32 → Int32 → Int32 → Int32 → Option (Int32 × St))) (s0 : St) (v1 : Int32) (v2 : Int32) (v5 : Int32) (t0 : Int32) : Option (Int32 × St) := (F_Model_whom_72 k20 s0 v1 v2 v5 t0 (0 : Int32))
set_option maxHeartbeats 4000000 in
set_option maxRecDepth 100000 in
theorem q_Model_whom_71 (K : Fx p s m args meth c b_Model_whom 6 R_Model (some .int)) (k20 : (St → Int32 → Int32 → Int32 → Int32 → Option (Int32 × St))) (hk20 : ∀ (H : Heap) (locs : List Loc) (ls : Array Slot) (s0 : St) (v1 : Int32) (v2 : Int32) (v4 : Int32) (v5 : Int32), Wh D cA ad shM A s s0 H locs → lv_has ls 6 [(0, .ref (ad 0)), (1, .int v1), (2, .int v2), (4, .int v4), (5, .int v5)] → k20 s0 v1 v2 v4 v5 = (some (r, τ)) → W p l e rm_Model_whom s m args below meth c H locs 0 0 (MQ below (QcI D cA ad shM A r τ) args s 0 0 A) (F0 m 35 ls [])) : ∀ (H : Heap) (locs : List Loc) (ls : Array Slot) (s0 : St) (v1 : Int32) (v2 : Int32) (v5 : Int32) (t0 : Int32), Wh D cA ad shM A s s0 H locs → lv_has ls 6 [(0, .ref (ad 0)), (1, .int v1), (2, .int v2), (5, .int v5)] → F_Model_whom_71 k20 s0 v1 v2 v5 t0 = (some (r, τ)) → W p l e rm_Model_whom s m args below meth c H locs 0 0 (MQ below (QcI D cA ad shM A r τ) args s 0 0 A) (F0 m 71 ls [.int t0]) := by
  have hx := K.1.1; have hb := K.1.2.1
  intro H locs ls s0 v1 v2 v5 t0 hw hl hF
  unfold F_Model_whom_71 at hF
  refine lv_iconst (v := 0) hx hb d_Model_whom_71 (by decide) ?_
  exact q_Model_whom_72 K k20 hk20 _ _ _ _ _ _ _ _ _  hw (lv_sub hl [0, 1, 2, 3] rfl) hF
def F_Model_whom_35 : Nat → St → Int32 → Int32 → Int32 → Int32 → Option (Int32 × St)
  | 0, _, _, _, _, _ => none
  | n + 1, s0, v1, v2, v4, v5 => (if (s0.1 0 0) ≤ v5 then (some (v4, s0)) else (if v5 = v2 then (F_Model_whom_71 (fun z0 zv1 zv2 zv4 zv5 => F_Model_whom_35 n z0 zv1 zv2 zv4 zv5) s0 v1 v2 v5 v4) else (ob2 (F_Model_unlikeNow s0 v1 v2 v5) (fun r_8 s_9 => (if ¬ r_8 = (-1 : Int32) then (F_Model_whom_71 (fun z0 zv1 zv2 zv4 zv5 => F_Model_whom_35 n z0 zv1 zv2 zv4 zv5) s_9 v1 v2 v5 v4) else (F_Model_whom_72 (fun z0 zv1 zv2 zv4 zv5 => F_Model_whom_35 n z0 zv1 zv2 zv4 zv5) s_9 v1 v2 v5 v4 (jshl (1 : Int32) v5)))))))
set_option maxHeartbeats 4000000 in
set_option maxRecDepth 100000 in
theorem q_Model_whom_35 (K : Fx p s m args meth c b_Model_whom 6 R_Model (some .int))  : ∀ (n : Nat), ∀ (H : Heap) (locs : List Loc) (ls : Array Slot) (s0 : St) (v1 : Int32) (v2 : Int32) (v4 : Int32) (v5 : Int32), Wh D cA ad shM A s s0 H locs → lv_has ls 6 [(0, .ref (ad 0)), (1, .int v1), (2, .int v2), (4, .int v4), (5, .int v5)] → F_Model_whom_35 n s0 v1 v2 v4 v5 = (some (r, τ)) → W p l e rm_Model_whom s m args below meth c H locs 0 0 (MQ below (QcI D cA ad shM A r τ) args s 0 0 A) (F0 m 35 ls []) := by
  have hx := K.1.1; have hb := K.1.2.1
  intro n
  induction n with
  | zero =>
    intro H locs ls s0 v1 v2 v4 v5 hw hl hF
    exact absurd hF (by rw [F_Model_whom_35]; exact nofun)
  | succ n ih =>
    intro H locs ls s0 v1 v2 v4 v5 hw hl hF
    rw [F_Model_whom_35] at hF
    refine lv_iload hx hb d_Model_whom_35 (lv_at hl 4 rfl) ?_
    refine lv_aload_n hx hb d_Model_whom_37 rfl (lv_at hl 0 rfl) ?_
    refine r_get (v := .int (s0.1 0 0)) K hw i_Model sh_Model rfl 0 (by decide) w_1025 rfl rfl rfl d_Model_whom_38 ?_
    refine lv_icmp_ge (tgt := 81) hx hb d_Model_whom_41 (by decide) (fun c_6 => ?_) (fun c_6 => ?_)
    · replace hF := ifT hF c_6
      refine lv_iload hx hb d_Model_whom_81 (lv_at hl 3 rfl) ?_
      cases hF
      exact r_iret K hw d_Model_whom_83
    · replace hF := ifF hF c_6
      refine lv_iload hx hb d_Model_whom_44 (lv_at hl 3 rfl) ?_
      refine lv_iload hx hb d_Model_whom_46 (lv_at hl 4 rfl) ?_
      refine lv_iload_n hx hb d_Model_whom_48 rfl (lv_at hl 2 rfl) ?_
      refine lv_icmp_eq (tgt := 71) hx hb d_Model_whom_49 (by decide) (fun c_7 => ?_) (fun c_7 => ?_)
      · replace hF := ifT hF c_7
        exact q_Model_whom_71 K (fun z0 zv1 zv2 zv4 zv5 => F_Model_whom_35 n z0 zv1 zv2 zv4 zv5) ih _ _ _ _ _ _ _ _  hw (lv_sub hl [0, 1, 2, 4] rfl) hF
      · replace hF := ifF hF c_7
        refine lv_aload_n hx hb d_Model_whom_52 rfl (lv_at hl 0 rfl) ?_
        refine lv_iload_n hx hb d_Model_whom_53 rfl (lv_at hl 1 rfl) ?_
        refine lv_iload_n hx hb d_Model_whom_54 rfl (lv_at hl 2 rfl) ?_
        refine lv_iload hx hb d_Model_whom_55 (lv_at hl 4 rfl) ?_
        obtain ⟨r_8, s_9, h_s_9, hF⟩ := ob2E hF
        refine r_callVI (As := [.int v1, .int v2, .int v5]) (rest := [.int v4]) K hw hl.1 (c_Model_unlikeNow (l := l) (D := D) (cA := cA) (ad := ad) (s0 := s0)  h_s_9) sh_Model rfl (tb_gV w_1339 w_1341 w_59 w_80 w_1342) a_Model_unlikeNow ⟨rfl, rfl, Nat.le_of_ble_eq_true rfl, Nat.le_of_ble_eq_true rfl⟩ rfl rfl (Nat.le_of_ble_eq_true rfl) d_Model_whom_57 (fun H locs hw => ?_)
        refine lv_iconst (v := -1) hx hb d_Model_whom_60 (by decide) ?_
        refine lv_icmp_ne (tgt := 71) hx hb d_Model_whom_61 (by decide) (fun c_10 => ?_) (fun c_10 => ?_)
        · replace hF := ifT hF c_10
          exact q_Model_whom_71 K (fun z0 zv1 zv2 zv4 zv5 => F_Model_whom_35 n z0 zv1 zv2 zv4 zv5) ih _ _ _ _ _ _ _ _  hw (lv_sub hl [0, 1, 2, 4] rfl) hF
        · replace hF := ifN hF c_10
          refine lv_iconst (v := 1) hx hb d_Model_whom_64 (by decide) ?_
          refine lv_iload hx hb d_Model_whom_65 (lv_at hl 4 rfl) ?_
          refine lv_ishl hx hb d_Model_whom_67 ?_
          refine lv_goto (tgt := 72) hx hb d_Model_whom_68 (by decide) ?_
          exact q_Model_whom_72 K (fun z0 zv1 zv2 zv4 zv5 => F_Model_whom_35 n z0 zv1 zv2 zv4 zv5) ih _ _ _ _ _ _ _ _ _  hw (lv_sub hl [0, 1, 2, 4] rfl) hF
def F_Model_whom_0 (s0 : St) (v1 : Int32) (v2 : Int32) : Option (Int32 × St) := (ob1 (F_Model_sheetWrong s0 v1) (fun r_1 => (if ¬ r_1 = 0 then (F_Model_whom_18 s0 r_1) else (ob1 (F_Model_isArm s0 v2) (fun r_4 => (if ¬ r_4 = 0 then (F_Model_whom_35 FU s0 v1 v2 (0 : Int32) (0 : Int32)) else (F_Model_whom_18 s0 r_1)))))))
set_option maxHeartbeats 4000000 in
set_option maxRecDepth 100000 in
theorem q_Model_whom_0 (K : Fx p s m args meth c b_Model_whom 6 R_Model (some .int))  : ∀ (H : Heap) (locs : List Loc) (ls : Array Slot) (s0 : St) (v1 : Int32) (v2 : Int32), Wh D cA ad shM A s s0 H locs → lv_has ls 6 [(0, .ref (ad 0)), (1, .int v1), (2, .int v2)] → F_Model_whom_0 s0 v1 v2 = (some (r, τ)) → W p l e rm_Model_whom s m args below meth c H locs 0 0 (MQ below (QcI D cA ad shM A r τ) args s 0 0 A) (F0 m 0 ls []) := by
  have hx := K.1.1; have hb := K.1.2.1
  intro H locs ls s0 v1 v2 hw hl hF
  unfold F_Model_whom_0 at hF
  refine lv_aload_n hx hb d_Model_whom_0 rfl (lv_at hl 0 rfl) ?_
  refine lv_iload_n hx hb d_Model_whom_1 rfl (lv_at hl 1 rfl) ?_
  obtain ⟨r_1, h_r_1, hF⟩ := ob1E hF
  refine r_callVI (As := [.int v1]) (rest := []) K hw hl.1 (c_Model_sheetWrong (l := l) (D := D) (cA := cA) (ad := ad) (s0 := s0)  h_r_1) sh_Model rfl (tb_gV w_1335 w_1337 w_58 w_80 w_1338) a_Model_sheetWrong ⟨rfl, rfl, Nat.le_of_ble_eq_true rfl, Nat.le_of_ble_eq_true rfl⟩ rfl rfl (Nat.le_of_ble_eq_true rfl) d_Model_whom_2 (fun H locs hw => ?_)
  refine lv_istore_n (lv' := [(3, .int r_1), (0, .ref (ad 0)), (1, .int v1), (2, .int v2)]) hx hb d_Model_whom_5 rfl hl (by decide) rfl (fun ls hl => ?_)
  refine lv_iload_n hx hb d_Model_whom_6 rfl (lv_at hl 0 rfl) ?_
  refine lv_if_ne (tgt := 18) hx hb d_Model_whom_7 (by decide) (fun c_2 => ?_) (fun c_2 => ?_)
  · replace hF := ifT hF c_2
    exact q_Model_whom_18 K _ _ _ _ _  hw (lv_sub hl [0] rfl) hF
  · replace hF := ifN hF c_2
    refine lv_aload_n hx hb d_Model_whom_10 rfl (lv_at hl 1 rfl) ?_
    refine lv_iload_n hx hb d_Model_whom_11 rfl (lv_at hl 3 rfl) ?_
    obtain ⟨r_4, h_r_4, hF⟩ := ob1E hF
    refine r_callVI (As := [.int v2]) (rest := []) K hw hl.1 (c_Model_isArm (l := l) (D := D) (cA := cA) (ad := ad) (s0 := s0)  h_r_4) sh_Model rfl (tb_gV w_1181 w_1183 w_39 w_80 w_1184) a_Model_isArm ⟨rfl, rfl, Nat.le_of_ble_eq_true rfl, Nat.le_of_ble_eq_true rfl⟩ rfl rfl (Nat.le_of_ble_eq_true rfl) d_Model_whom_12 (fun H locs hw => ?_)
    refine lv_if_ne (tgt := 29) hx hb d_Model_whom_15 (by decide) (fun c_5 => ?_) (fun c_5 => ?_)
    · replace hF := ifT hF c_5
      refine lv_iconst (v := 0) hx hb d_Model_whom_29 (by decide) ?_
      refine lv_istore (lv' := [(4, .int (0 : Int32)), (3, .int r_1), (0, .ref (ad 0)), (1, .int v1), (2, .int v2)]) hx hb d_Model_whom_30 hl (by decide) rfl (fun ls hl => ?_)
      refine lv_iconst (v := 0) hx hb d_Model_whom_32 (by decide) ?_
      refine lv_istore (lv' := [(5, .int (0 : Int32)), (4, .int (0 : Int32)), (3, .int r_1), (0, .ref (ad 0)), (1, .int v1), (2, .int v2)]) hx hb d_Model_whom_33 hl (by decide) rfl (fun ls hl => ?_)
      exact q_Model_whom_35 K FU _ _ _ _ _ _ _ _  hw (lv_sub hl [3, 4, 5, 1, 0] rfl) hF
    · replace hF := ifN hF c_5
      exact q_Model_whom_18 K _ _ _ _ _  hw (lv_sub hl [0] rfl) hF
end S_Model_whom
abbrev F_Model_whom := F_Model_whom_0
theorem c_Model_whom {l : Launch} {D : va_G} {cA : Nat → ClassId} {ad : Nat → Nat} {s0 τ : St} {r : Int32} {v1 : Int32} {v2 : Int32}  (hF : F_Model_whom s0 v1 v2 = (some (r, τ))) : MI l D cA ad shM y_Model_whom (wT y_Model_whom b_Model_whom 6 (some .int)) rm_Model_whom [.ref (ad 0), .int v1, .int v2] s0 r τ :=
  fun sz => m_start (Qc := fun A => QcI D cA ad shM A r τ) (by decide +kernel) w_1354 (Nat.le_of_ble_eq_true rfl) (fun p e s m below meth c ls K hl hw => q_Model_whom_0 K _ _ _ _ _ _  hw hl hF)

/-! Model.laws(III)I -/
abbrev b_Model_laws : ByteArray := prog_13_method_65_code
def y_Model_laws : MethodName := ⟨R_Model, "laws", "(III)I"⟩
abbrev rm_Model_laws : Room := { frames := 8, cells := 0, slots := 0, locals := 200 }
theorem a_Model_laws : y_Model_laws.cls = R_Model ∧ y_Model_laws.cls ≠ "java/lang/invoke/MethodHandle" ∧ y_Model_laws.cls ≠ "java/lang/invoke/VarHandle" ∧ (parseMethodDescriptor y_Model_laws.desc).map (fun d => d.parameters.length) = some 3 := by decide +kernel
theorem w_1358 : Cond.code y_Model_laws b_Model_laws 8 (some .int) ∈ TB := tb_in 1358 (by decide +kernel) (by decide +kernel)
theorem d_Model_laws_0 : decode b_Model_laws 0 = .ok (.aload_n 0, 1) := by decide +kernel
theorem d_Model_laws_1 : decode b_Model_laws 1 = .ok (.iload_n 1, 1) := by decide +kernel
theorem d_Model_laws_2 : decode b_Model_laws 2 = .ok (.iload_n 2, 1) := by decide +kernel
theorem d_Model_laws_3 : decode b_Model_laws 3 = .ok (.iload_n 3, 1) := by decide +kernel
theorem d_Model_laws_4 : decode b_Model_laws 4 = .ok (.invokevirtual 269, 3) := by decide +kernel
theorem d_Model_laws_7 : decode b_Model_laws 7 = .ok (.istore 4, 2) := by decide +kernel
theorem d_Model_laws_9 : decode b_Model_laws 9 = .ok (.iload 4, 2) := by decide +kernel
theorem d_Model_laws_11 : decode b_Model_laws 11 = .ok (.ifCond .eq 6, 3) := by decide +kernel
theorem d_Model_laws_14 : decode b_Model_laws 14 = .ok (.iload 4, 2) := by decide +kernel
theorem d_Model_laws_16 : decode b_Model_laws 16 = .ok (.ireturn, 1) := by decide +kernel
theorem d_Model_laws_17 : decode b_Model_laws 17 = .ok (.aload_n 0, 1) := by decide +kernel
theorem d_Model_laws_18 : decode b_Model_laws 18 = .ok (.getfield 93, 3) := by decide +kernel
theorem d_Model_laws_21 : decode b_Model_laws 21 = .ok (.istore 5, 2) := by decide +kernel
theorem d_Model_laws_23 : decode b_Model_laws 23 = .ok (.iconst 0, 1) := by decide +kernel
theorem d_Model_laws_24 : decode b_Model_laws 24 = .ok (.istore 6, 2) := by decide +kernel
theorem d_Model_laws_26 : decode b_Model_laws 26 = .ok (.iconst 0, 1) := by decide +kernel
theorem d_Model_laws_27 : decode b_Model_laws 27 = .ok (.istore 7, 2) := by decide +kernel
theorem d_Model_laws_29 : decode b_Model_laws 29 = .ok (.iload 7, 2) := by decide +kernel
theorem d_Model_laws_31 : decode b_Model_laws 31 = .ok (.aload_n 0, 1) := by decide +kernel
theorem d_Model_laws_32 : decode b_Model_laws 32 = .ok (.getfield 90, 3) := by decide +kernel
theorem d_Model_laws_35 : decode b_Model_laws 35 = .ok (.if_icmp .ge 39, 3) := by decide +kernel
theorem d_Model_laws_38 : decode b_Model_laws 38 = .ok (.aload_n 0, 1) := by decide +kernel
theorem d_Model_laws_39 : decode b_Model_laws 39 = .ok (.iload 7, 2) := by decide +kernel
theorem d_Model_laws_41 : decode b_Model_laws 41 = .ok (.putfield 93, 3) := by decide +kernel
theorem d_Model_laws_44 : decode b_Model_laws 44 = .ok (.iload 6, 2) := by decide +kernel
theorem d_Model_laws_46 : decode b_Model_laws 46 = .ok (.aload_n 0, 1) := by decide +kernel
theorem d_Model_laws_47 : decode b_Model_laws 47 = .ok (.iload_n 1, 1) := by decide +kernel
theorem d_Model_laws_48 : decode b_Model_laws 48 = .ok (.iload_n 2, 1) := by decide +kernel
theorem d_Model_laws_49 : decode b_Model_laws 49 = .ok (.iload_n 3, 1) := by decide +kernel
theorem d_Model_laws_50 : decode b_Model_laws 50 = .ok (.invokevirtual 272, 3) := by decide +kernel
theorem d_Model_laws_53 : decode b_Model_laws 53 = .ok (.iconst (-1), 1) := by decide +kernel
theorem d_Model_laws_54 : decode b_Model_laws 54 = .ok (.if_icmp .ne 10, 3) := by decide +kernel
theorem d_Model_laws_57 : decode b_Model_laws 57 = .ok (.iconst 1, 1) := by decide +kernel
theorem d_Model_laws_58 : decode b_Model_laws 58 = .ok (.iload 7, 2) := by decide +kernel
theorem d_Model_laws_60 : decode b_Model_laws 60 = .ok (.ishl, 1) := by decide +kernel
theorem d_Model_laws_61 : decode b_Model_laws 61 = .ok (.goto 4, 3) := by decide +kernel
theorem d_Model_laws_64 : decode b_Model_laws 64 = .ok (.iconst 0, 1) := by decide +kernel
theorem d_Model_laws_65 : decode b_Model_laws 65 = .ok (.ior, 1) := by decide +kernel
theorem d_Model_laws_66 : decode b_Model_laws 66 = .ok (.istore 6, 2) := by decide +kernel
theorem d_Model_laws_68 : decode b_Model_laws 68 = .ok (.iinc 7 1, 3) := by decide +kernel
theorem d_Model_laws_71 : decode b_Model_laws 71 = .ok (.goto (-42), 3) := by decide +kernel
theorem d_Model_laws_74 : decode b_Model_laws 74 = .ok (.aload_n 0, 1) := by decide +kernel
theorem d_Model_laws_75 : decode b_Model_laws 75 = .ok (.iload 5, 2) := by decide +kernel
theorem d_Model_laws_77 : decode b_Model_laws 77 = .ok (.putfield 93, 3) := by decide +kernel
theorem d_Model_laws_80 : decode b_Model_laws 80 = .ok (.iload 6, 2) := by decide +kernel
theorem d_Model_laws_82 : decode b_Model_laws 82 = .ok (.ireturn, 1) := by decide +kernel
section S_Model_laws
variable {p : Program} {l : Launch} {e : Env} {s : State} {m : MethodId} {args : Array Value} {below : List Frame} {meth : Method} {c : Code} {D : va_G} {cA : Nat → ClassId} {ad : Nat → Nat} {A : Nat → Prop} {r : Int32} {τ : St}
def F_Model_laws_65 (k17 : (St → Int32 → Int32 → Int32 → Int32 → Int32 → Int32 → Option (Int32 × St))) (s0 : St) (v1 : Int32) (v2 : Int32) (v3 : Int32) (v5 : Int32) (v7 : Int32) (t0 : Int32) (t1 : Int32) : Option (Int32 × St) := (k17 s0 v1 v2 v3 v5 (t0 ||| t1) (v7 + 1))
set_option maxHeartbeats 4000000 in
set_option maxRecDepth 100000 in
theorem q_Model_laws_65 (K : Fx p s m args meth c b_Model_laws 8 R_Model (some .int)) (k17 : (St → Int32 → Int32 → Int32 → Int32 → Int32 → Int32 → Option (Int32 × St))) (hk17 : ∀ (H : Heap) (locs : List Loc) (ls : Array Slot) (s0 : St) (v1 : Int32) (v2 : Int32) (v3 : Int32) (v5 : Int32) (v6 : Int32) (v7 : Int32), Wh D cA ad shM A s s0 H locs → lv_has ls 8 [(0, .ref (ad 0)), (1, .int v1), (2, .int v2), (3, .int v3), (5, .int v5), (6, .int v6), (7, .int v7)] → k17 s0 v1 v2 v3 v5 v6 v7 = (some (r, τ)) → W p l e rm_Model_laws s m args below meth c H locs 0 0 (MQ below (QcI D cA ad shM A r τ) args s 0 0 A) (F0 m 29 ls [])) : ∀ (H : Heap) (locs : List Loc) (ls : Array Slot) (s0 : St) (v1 : Int32) (v2 : Int32) (v3 : Int32) (v5 : Int32) (v7 : Int32) (t0 : Int32) (t1 : Int32), Wh D cA ad shM A s s0 H locs → lv_has ls 8 [(0, .ref (ad 0)), (1, .int v1), (2, .int v2), (3, .int v3), (5, .int v5), (7, .int v7)] → F_Model_laws_65 k17 s0 v1 v2 v3 v5 v7 t0 t1 = (some (r, τ)) → W p l e rm_Model_laws s m args below meth c H locs 0 0 (MQ below (QcI D cA ad shM A r τ) args s 0 0 A) (F0 m 65 ls [.int t1, .int t0]) := by
  have hx := K.1.1; have hb := K.1.2.1
  intro H locs ls s0 v1 v2 v3 v5 v7 t0 t1 hw hl hF
  unfold F_Model_laws_65 at hF
  refine lv_ior hx hb d_Model_laws_65 ?_
  refine lv_istore (lv' := [(6, .int (t0 ||| t1)), (0, .ref (ad 0)), (1, .int v1), (2, .int v2), (3, .int v3), (5, .int v5), (7, .int v7)]) hx hb d_Model_laws_66 hl (by decide) rfl (fun ls hl => ?_)
  refine lv_iinc (v := (v7 + 1)) (lv' := [(7, .int (v7 + 1)), (6, .int (t0 ||| t1)), (0, .ref (ad 0)), (1, .int v1), (2, .int v2), (3, .int v3), (5, .int v5)]) hx hb d_Model_laws_68 hl (k := 6) rfl rfl (by decide) rfl (fun ls hl => ?_)
  refine lv_goto (tgt := 29) hx hb d_Model_laws_71 (by decide) ?_
  exact hk17 _ _ _ _ _ _ _ _ _ _  hw (lv_sub hl [2, 3, 4, 5, 6, 1, 0] rfl) hF
def F_Model_laws_29 : Nat → St → Int32 → Int32 → Int32 → Int32 → Int32 → Int32 → Option (Int32 × St)
  | 0, _, _, _, _, _, _, _ => none
  | n + 1, s0, v1, v2, v3, v5, v6, v7 => (if (s0.1 0 10) ≤ v7 then (lt (up1 s0 0 11 v5) (fun s_4 => (some (v6, s_4)))) else (lt (up1 s0 0 11 v7) (fun s_5 => (ob2 (F_Model_unlikeNow s_5 v1 v2 v3) (fun r_6 s_7 => (if ¬ r_6 = (-1 : Int32) then (F_Model_laws_65 (fun z0 zv1 zv2 zv3 zv5 zv6 zv7 => F_Model_laws_29 n z0 zv1 zv2 zv3 zv5 zv6 zv7) s_7 v1 v2 v3 v5 v7 v6 (0 : Int32)) else (F_Model_laws_65 (fun z0 zv1 zv2 zv3 zv5 zv6 zv7 => F_Model_laws_29 n z0 zv1 zv2 zv3 zv5 zv6 zv7) s_7 v1 v2 v3 v5 v7 v6 (jshl (1 : Int32) v7))))))))
set_option maxHeartbeats 4000000 in
set_option maxRecDepth 100000 in
theorem q_Model_laws_29 (K : Fx p s m args meth c b_Model_laws 8 R_Model (some .int))  : ∀ (n : Nat), ∀ (H : Heap) (locs : List Loc) (ls : Array Slot) (s0 : St) (v1 : Int32) (v2 : Int32) (v3 : Int32) (v5 : Int32) (v6 : Int32) (v7 : Int32), Wh D cA ad shM A s s0 H locs → lv_has ls 8 [(0, .ref (ad 0)), (1, .int v1), (2, .int v2), (3, .int v3), (5, .int v5), (6, .int v6), (7, .int v7)] → F_Model_laws_29 n s0 v1 v2 v3 v5 v6 v7 = (some (r, τ)) → W p l e rm_Model_laws s m args below meth c H locs 0 0 (MQ below (QcI D cA ad shM A r τ) args s 0 0 A) (F0 m 29 ls []) := by
  have hx := K.1.1; have hb := K.1.2.1
  intro n
  induction n with
  | zero =>
    intro H locs ls s0 v1 v2 v3 v5 v6 v7 hw hl hF
    exact absurd hF (by rw [F_Model_laws_29]; exact nofun)
  | succ n ih =>
    intro H locs ls s0 v1 v2 v3 v5 v6 v7 hw hl hF
    rw [F_Model_laws_29] at hF
    refine lv_iload hx hb d_Model_laws_29 (lv_at hl 6 rfl) ?_
    refine lv_aload_n hx hb d_Model_laws_31 rfl (lv_at hl 0 rfl) ?_
    refine r_get (v := .int (s0.1 0 10)) K hw i_Model sh_Model rfl 10 (by decide) w_1035 rfl rfl rfl d_Model_laws_32 ?_
    refine lv_icmp_ge (tgt := 74) hx hb d_Model_laws_35 (by decide) (fun c_3 => ?_) (fun c_3 => ?_)
    · replace hF := ifT hF c_3
      refine lv_aload_n hx hb d_Model_laws_74 rfl (lv_at hl 0 rfl) ?_
      refine lv_iload hx hb d_Model_laws_75 (lv_at hl 4 rfl) ?_
      refine r_putI K hw i_Model t_Model t_Model_ok n_Model sh_Model rfl 11 (by decide) w_1036 rfl rfl rfl rfl rfl d_Model_laws_77 (fun s_4 f_s_4 H locs hw => ?_)
      replace hF := ltN hF f_s_4
      refine lv_iload hx hb d_Model_laws_80 (lv_at hl 5 rfl) ?_
      cases hF
      exact r_iret K hw d_Model_laws_82
    · replace hF := ifF hF c_3
      refine lv_aload_n hx hb d_Model_laws_38 rfl (lv_at hl 0 rfl) ?_
      refine lv_iload hx hb d_Model_laws_39 (lv_at hl 6 rfl) ?_
      refine r_putI K hw i_Model t_Model t_Model_ok n_Model sh_Model rfl 11 (by decide) w_1036 rfl rfl rfl rfl rfl d_Model_laws_41 (fun s_5 f_s_5 H locs hw => ?_)
      replace hF := ltN hF f_s_5
      refine lv_iload hx hb d_Model_laws_44 (lv_at hl 5 rfl) ?_
      refine lv_aload_n hx hb d_Model_laws_46 rfl (lv_at hl 0 rfl) ?_
      refine lv_iload_n hx hb d_Model_laws_47 rfl (lv_at hl 1 rfl) ?_
      refine lv_iload_n hx hb d_Model_laws_48 rfl (lv_at hl 2 rfl) ?_
      refine lv_iload_n hx hb d_Model_laws_49 rfl (lv_at hl 3 rfl) ?_
      obtain ⟨r_6, s_7, h_s_7, hF⟩ := ob2E hF
      refine r_callVI (As := [.int v1, .int v2, .int v3]) (rest := [.int v6]) K hw hl.1 (c_Model_unlikeNow (l := l) (D := D) (cA := cA) (ad := ad) (s0 := s_5)  h_s_7) sh_Model rfl (tb_gV w_1339 w_1341 w_59 w_80 w_1342) a_Model_unlikeNow ⟨rfl, rfl, Nat.le_of_ble_eq_true rfl, Nat.le_of_ble_eq_true rfl⟩ rfl rfl (Nat.le_of_ble_eq_true rfl) d_Model_laws_50 (fun H locs hw => ?_)
      refine lv_iconst (v := -1) hx hb d_Model_laws_53 (by decide) ?_
      refine lv_icmp_ne (tgt := 64) hx hb d_Model_laws_54 (by decide) (fun c_8 => ?_) (fun c_8 => ?_)
      · replace hF := ifT hF c_8
        refine lv_iconst (v := 0) hx hb d_Model_laws_64 (by decide) ?_
        exact q_Model_laws_65 K (fun z0 zv1 zv2 zv3 zv5 zv6 zv7 => F_Model_laws_29 n z0 zv1 zv2 zv3 zv5 zv6 zv7) ih _ _ _ _ _ _ _ _ _ _ _  hw (lv_sub hl [0, 1, 2, 3, 4, 6] rfl) hF
      · replace hF := ifN hF c_8
        refine lv_iconst (v := 1) hx hb d_Model_laws_57 (by decide) ?_
        refine lv_iload hx hb d_Model_laws_58 (lv_at hl 6 rfl) ?_
        refine lv_ishl hx hb d_Model_laws_60 ?_
        refine lv_goto (tgt := 65) hx hb d_Model_laws_61 (by decide) ?_
        exact q_Model_laws_65 K (fun z0 zv1 zv2 zv3 zv5 zv6 zv7 => F_Model_laws_29 n z0 zv1 zv2 zv3 zv5 zv6 zv7) ih _ _ _ _ _ _ _ _ _ _ _  hw (lv_sub hl [0, 1, 2, 3, 4, 6] rfl) hF
def F_Model_laws_0 (s0 : St) (v1 : Int32) (v2 : Int32) (v3 : Int32) : Option (Int32 × St) := (ob1 (F_Model_toldWrong s0 v1 v2 v3) (fun r_1 => (if r_1 = 0 then (F_Model_laws_29 FU s0 v1 v2 v3 (s0.1 0 11) (0 : Int32) (0 : Int32)) else (some (r_1, s0)))))
set_option maxHeartbeats 4000000 in
set_option maxRecDepth 100000 in
theorem q_Model_laws_0 (K : Fx p s m args meth c b_Model_laws 8 R_Model (some .int))  : ∀ (H : Heap) (locs : List Loc) (ls : Array Slot) (s0 : St) (v1 : Int32) (v2 : Int32) (v3 : Int32), Wh D cA ad shM A s s0 H locs → lv_has ls 8 [(0, .ref (ad 0)), (1, .int v1), (2, .int v2), (3, .int v3)] → F_Model_laws_0 s0 v1 v2 v3 = (some (r, τ)) → W p l e rm_Model_laws s m args below meth c H locs 0 0 (MQ below (QcI D cA ad shM A r τ) args s 0 0 A) (F0 m 0 ls []) := by
  have hx := K.1.1; have hb := K.1.2.1
  intro H locs ls s0 v1 v2 v3 hw hl hF
  unfold F_Model_laws_0 at hF
  refine lv_aload_n hx hb d_Model_laws_0 rfl (lv_at hl 0 rfl) ?_
  refine lv_iload_n hx hb d_Model_laws_1 rfl (lv_at hl 1 rfl) ?_
  refine lv_iload_n hx hb d_Model_laws_2 rfl (lv_at hl 2 rfl) ?_
  refine lv_iload_n hx hb d_Model_laws_3 rfl (lv_at hl 3 rfl) ?_
  obtain ⟨r_1, h_r_1, hF⟩ := ob1E hF
  refine r_callVI (As := [.int v1, .int v2, .int v3]) (rest := []) K hw hl.1 (c_Model_toldWrong (l := l) (D := D) (cA := cA) (ad := ad) (s0 := s0)  h_r_1) sh_Model rfl (tb_gV w_1331 w_1333 w_57 w_80 w_1334) a_Model_toldWrong ⟨rfl, rfl, Nat.le_of_ble_eq_true rfl, Nat.le_of_ble_eq_true rfl⟩ rfl rfl (Nat.le_of_ble_eq_true rfl) d_Model_laws_4 (fun H locs hw => ?_)
  refine lv_istore (lv' := [(4, .int r_1), (0, .ref (ad 0)), (1, .int v1), (2, .int v2), (3, .int v3)]) hx hb d_Model_laws_7 hl (by decide) rfl (fun ls hl => ?_)
  refine lv_iload hx hb d_Model_laws_9 (lv_at hl 0 rfl) ?_
  refine lv_if_eq (tgt := 17) hx hb d_Model_laws_11 (by decide) (fun c_2 => ?_) (fun c_2 => ?_)
  · replace hF := ifT hF c_2
    refine lv_aload_n hx hb d_Model_laws_17 rfl (lv_at hl 1 rfl) ?_
    refine r_get (v := .int (s0.1 0 11)) K hw i_Model sh_Model rfl 11 (by decide) w_1036 rfl rfl rfl d_Model_laws_18 ?_
    refine lv_istore (lv' := [(5, .int (s0.1 0 11)), (4, .int r_1), (0, .ref (ad 0)), (1, .int v1), (2, .int v2), (3, .int v3)]) hx hb d_Model_laws_21 hl (by decide) rfl (fun ls hl => ?_)
    refine lv_iconst (v := 0) hx hb d_Model_laws_23 (by decide) ?_
    refine lv_istore (lv' := [(6, .int (0 : Int32)), (5, .int (s0.1 0 11)), (4, .int r_1), (0, .ref (ad 0)), (1, .int v1), (2, .int v2), (3, .int v3)]) hx hb d_Model_laws_24 hl (by decide) rfl (fun ls hl => ?_)
    refine lv_iconst (v := 0) hx hb d_Model_laws_26 (by decide) ?_
    refine lv_istore (lv' := [(7, .int (0 : Int32)), (6, .int (0 : Int32)), (5, .int (s0.1 0 11)), (4, .int r_1), (0, .ref (ad 0)), (1, .int v1), (2, .int v2), (3, .int v3)]) hx hb d_Model_laws_27 hl (by decide) rfl (fun ls hl => ?_)
    exact q_Model_laws_29 K FU _ _ _ _ _ _ _ _ _ _  hw (lv_sub hl [4, 5, 6, 7, 2, 1, 0] rfl) hF
  · replace hF := ifF hF c_2
    refine lv_iload hx hb d_Model_laws_14 (lv_at hl 0 rfl) ?_
    cases hF
    exact r_iret K hw d_Model_laws_16
end S_Model_laws
abbrev F_Model_laws := F_Model_laws_0
theorem c_Model_laws {l : Launch} {D : va_G} {cA : Nat → ClassId} {ad : Nat → Nat} {s0 τ : St} {r : Int32} {v1 : Int32} {v2 : Int32} {v3 : Int32}  (hF : F_Model_laws s0 v1 v2 v3 = (some (r, τ))) : MI l D cA ad shM y_Model_laws (wT y_Model_laws b_Model_laws 8 (some .int)) rm_Model_laws [.ref (ad 0), .int v1, .int v2, .int v3] s0 r τ :=
  fun sz => m_start (Qc := fun A => QcI D cA ad shM A r τ) (by decide +kernel) w_1358 (Nat.le_of_ble_eq_true rfl) (fun p e s m below meth c ls K hl hw => q_Model_laws_0 K _ _ _ _ _ _ _  hw hl hF)

/-! Model.film(III)I -/
abbrev b_Model_film : ByteArray := prog_13_method_66_code
def y_Model_film : MethodName := ⟨R_Model, "film", "(III)I"⟩
abbrev rm_Model_film : Room := { frames := 6, cells := 0, slots := 0, locals := 153 }
theorem a_Model_film : y_Model_film.cls = R_Model ∧ y_Model_film.cls ≠ "java/lang/invoke/MethodHandle" ∧ y_Model_film.cls ≠ "java/lang/invoke/VarHandle" ∧ (parseMethodDescriptor y_Model_film.desc).map (fun d => d.parameters.length) = some 3 := by decide +kernel
theorem w_1362 : Cond.code y_Model_film b_Model_film 5 (some .int) ∈ TB := tb_in 1362 (by decide +kernel) (by decide +kernel)
theorem d_Model_film_0 : decode b_Model_film 0 = .ok (.iload_n 1, 1) := by decide +kernel
theorem d_Model_film_1 : decode b_Model_film 1 = .ok (.iconst 0, 1) := by decide +kernel
theorem d_Model_film_2 : decode b_Model_film 2 = .ok (.iconst 3, 1) := by decide +kernel
theorem d_Model_film_3 : decode b_Model_film 3 = .ok (.invokestatic 78, 3) := by decide +kernel
theorem d_Model_film_6 : decode b_Model_film 6 = .ok (.ifCond .ne 6, 3) := by decide +kernel
theorem d_Model_film_9 : decode b_Model_film 9 = .ok (.bipush (-2), 2) := by decide +kernel
theorem d_Model_film_11 : decode b_Model_film 11 = .ok (.ireturn, 1) := by decide +kernel
theorem d_Model_film_12 : decode b_Model_film 12 = .ok (.aload_n 0, 1) := by decide +kernel
theorem d_Model_film_13 : decode b_Model_film 13 = .ok (.iload_n 2, 1) := by decide +kernel
theorem d_Model_film_14 : decode b_Model_film 14 = .ok (.invokevirtual 220, 3) := by decide +kernel
theorem d_Model_film_17 : decode b_Model_film 17 = .ok (.ifCond .ne 6, 3) := by decide +kernel
theorem d_Model_film_20 : decode b_Model_film 20 = .ok (.bipush (-5), 2) := by decide +kernel
theorem d_Model_film_22 : decode b_Model_film 22 = .ok (.ireturn, 1) := by decide +kernel
theorem d_Model_film_23 : decode b_Model_film 23 = .ok (.iload_n 3, 1) := by decide +kernel
theorem d_Model_film_24 : decode b_Model_film 24 = .ok (.iconst 0, 1) := by decide +kernel
theorem d_Model_film_25 : decode b_Model_film 25 = .ok (.bipush 8, 2) := by decide +kernel
theorem d_Model_film_27 : decode b_Model_film 27 = .ok (.invokestatic 78, 3) := by decide +kernel
theorem d_Model_film_30 : decode b_Model_film 30 = .ok (.ifCond .ne 6, 3) := by decide +kernel
theorem d_Model_film_33 : decode b_Model_film 33 = .ok (.bipush (-7), 2) := by decide +kernel
theorem d_Model_film_35 : decode b_Model_film 35 = .ok (.ireturn, 1) := by decide +kernel
theorem d_Model_film_36 : decode b_Model_film 36 = .ok (.aload_n 0, 1) := by decide +kernel
theorem d_Model_film_37 : decode b_Model_film 37 = .ok (.getfield 40, 3) := by decide +kernel
theorem d_Model_film_40 : decode b_Model_film 40 = .ok (.iload_n 1, 1) := by decide +kernel
theorem d_Model_film_41 : decode b_Model_film 41 = .ok (.iconst 2, 1) := by decide +kernel
theorem d_Model_film_42 : decode b_Model_film 42 = .ok (.iastore, 1) := by decide +kernel
theorem d_Model_film_43 : decode b_Model_film 43 = .ok (.aload_n 0, 1) := by decide +kernel
theorem d_Model_film_44 : decode b_Model_film 44 = .ok (.getfield 43, 3) := by decide +kernel
theorem d_Model_film_47 : decode b_Model_film 47 = .ok (.iload_n 1, 1) := by decide +kernel
theorem d_Model_film_48 : decode b_Model_film 48 = .ok (.iload_n 3, 1) := by decide +kernel
theorem d_Model_film_49 : decode b_Model_film 49 = .ok (.iastore, 1) := by decide +kernel
theorem d_Model_film_50 : decode b_Model_film 50 = .ok (.aload_n 0, 1) := by decide +kernel
theorem d_Model_film_51 : decode b_Model_film 51 = .ok (.iload_n 2, 1) := by decide +kernel
theorem d_Model_film_52 : decode b_Model_film 52 = .ok (.bipush 10, 2) := by decide +kernel
theorem d_Model_film_54 : decode b_Model_film 54 = .ok (.idiv, 1) := by decide +kernel
theorem d_Model_film_55 : decode b_Model_film 55 = .ok (.iload_n 2, 1) := by decide +kernel
theorem d_Model_film_56 : decode b_Model_film 56 = .ok (.bipush 10, 2) := by decide +kernel
theorem d_Model_film_58 : decode b_Model_film 58 = .ok (.irem, 1) := by decide +kernel
theorem d_Model_film_59 : decode b_Model_film 59 = .ok (.iconst 0, 1) := by decide +kernel
theorem d_Model_film_60 : decode b_Model_film 60 = .ok (.invokevirtual 210, 3) := by decide +kernel
theorem d_Model_film_63 : decode b_Model_film 63 = .ok (.iconst 0, 1) := by decide +kernel
theorem d_Model_film_64 : decode b_Model_film 64 = .ok (.istore 4, 2) := by decide +kernel
theorem d_Model_film_66 : decode b_Model_film 66 = .ok (.iload 4, 2) := by decide +kernel
theorem d_Model_film_68 : decode b_Model_film 68 = .ok (.bipush 40, 2) := by decide +kernel
theorem d_Model_film_70 : decode b_Model_film 70 = .ok (.if_icmp .ge 59, 3) := by decide +kernel
theorem d_Model_film_73 : decode b_Model_film 73 = .ok (.iload 4, 2) := by decide +kernel
theorem d_Model_film_75 : decode b_Model_film 75 = .ok (.iload_n 3, 1) := by decide +kernel
theorem d_Model_film_76 : decode b_Model_film 76 = .ok (.if_icmp .ge 21, 3) := by decide +kernel
theorem d_Model_film_79 : decode b_Model_film 79 = .ok (.aload_n 0, 1) := by decide +kernel
theorem d_Model_film_80 : decode b_Model_film 80 = .ok (.iload_n 2, 1) := by decide +kernel
theorem d_Model_film_81 : decode b_Model_film 81 = .ok (.bipush 10, 2) := by decide +kernel
theorem d_Model_film_83 : decode b_Model_film 83 = .ok (.idiv, 1) := by decide +kernel
theorem d_Model_film_84 : decode b_Model_film 84 = .ok (.iload_n 2, 1) := by decide +kernel
theorem d_Model_film_85 : decode b_Model_film 85 = .ok (.bipush 10, 2) := by decide +kernel
theorem d_Model_film_87 : decode b_Model_film 87 = .ok (.irem, 1) := by decide +kernel
theorem d_Model_film_88 : decode b_Model_film 88 = .ok (.iconst 5, 1) := by decide +kernel
theorem d_Model_film_89 : decode b_Model_film 89 = .ok (.iload 4, 2) := by decide +kernel
theorem d_Model_film_91 : decode b_Model_film 91 = .ok (.imul, 1) := by decide +kernel
theorem d_Model_film_92 : decode b_Model_film 92 = .ok (.iconst 5, 1) := by decide +kernel
theorem d_Model_film_93 : decode b_Model_film 93 = .ok (.iadd, 1) := by decide +kernel
theorem d_Model_film_94 : decode b_Model_film 94 = .ok (.invokevirtual 213, 3) := by decide +kernel
theorem d_Model_film_97 : decode b_Model_film 97 = .ok (.aload_n 0, 1) := by decide +kernel
theorem d_Model_film_98 : decode b_Model_film 98 = .ok (.getfield 46, 3) := by decide +kernel
theorem d_Model_film_101 : decode b_Model_film 101 = .ok (.bipush 40, 2) := by decide +kernel
theorem d_Model_film_103 : decode b_Model_film 103 = .ok (.iload_n 1, 1) := by decide +kernel
theorem d_Model_film_104 : decode b_Model_film 104 = .ok (.imul, 1) := by decide +kernel
theorem d_Model_film_105 : decode b_Model_film 105 = .ok (.iload 4, 2) := by decide +kernel
theorem d_Model_film_107 : decode b_Model_film 107 = .ok (.iadd, 1) := by decide +kernel
theorem d_Model_film_108 : decode b_Model_film 108 = .ok (.iload 4, 2) := by decide +kernel
theorem d_Model_film_110 : decode b_Model_film 110 = .ok (.iload_n 3, 1) := by decide +kernel
theorem d_Model_film_111 : decode b_Model_film 111 = .ok (.if_icmp .ge 10, 3) := by decide +kernel
theorem d_Model_film_114 : decode b_Model_film 114 = .ok (.aload_n 0, 1) := by decide +kernel
theorem d_Model_film_115 : decode b_Model_film 115 = .ok (.getfield 187, 3) := by decide +kernel
theorem d_Model_film_118 : decode b_Model_film 118 = .ok (.goto 4, 3) := by decide +kernel
theorem d_Model_film_121 : decode b_Model_film 121 = .ok (.iconst 0, 1) := by decide +kernel
theorem d_Model_film_122 : decode b_Model_film 122 = .ok (.iastore, 1) := by decide +kernel
theorem d_Model_film_123 : decode b_Model_film 123 = .ok (.iinc 4 1, 3) := by decide +kernel
theorem d_Model_film_126 : decode b_Model_film 126 = .ok (.goto (-60), 3) := by decide +kernel
theorem d_Model_film_129 : decode b_Model_film 129 = .ok (.iload_n 3, 1) := by decide +kernel
theorem d_Model_film_130 : decode b_Model_film 130 = .ok (.ireturn, 1) := by decide +kernel
section S_Model_film
variable {p : Program} {l : Launch} {e : Env} {s : State} {m : MethodId} {args : Array Value} {below : List Frame} {meth : Method} {c : Code} {D : va_G} {cA : Nat → ClassId} {ad : Nat → Nat} {A : Nat → Prop} {r : Int32} {τ : St}
def F_Model_film_122 (k41 : (St → Int32 → Int32 → Int32 → Int32 → Option (Int32 × St))) (s0 : St) (v1 : Int32) (v2 : Int32) (v3 : Int32) (v4 : Int32) (t1 : Int32) (t2 : Int32) : Option (Int32 × St) := (if inB t1 160 = true then (lt (up1 s0 13 t1.toNatClampNeg t2) (fun s_14 => (k41 s_14 v1 v2 v3 (v4 + 1)))) else none)
set_option maxHeartbeats 4000000 in
set_option maxRecDepth 100000 in
theorem q_Model_film_122 (K : Fx p s m args meth c b_Model_film 5 R_Model (some .int)) (k41 : (St → Int32 → Int32 → Int32 → Int32 → Option (Int32 × St))) (hk41 : ∀ (H : Heap) (locs : List Loc) (ls : Array Slot) (s0 : St) (v1 : Int32) (v2 : Int32) (v3 : Int32) (v4 : Int32), Wh D cA ad shM A s s0 H locs → lv_has ls 5 [(0, .ref (ad 0)), (1, .int v1), (2, .int v2), (3, .int v3), (4, .int v4)] → k41 s0 v1 v2 v3 v4 = (some (r, τ)) → W p l e rm_Model_film s m args below meth c H locs 0 0 (MQ below (QcI D cA ad shM A r τ) args s 0 0 A) (F0 m 66 ls [])) : ∀ (H : Heap) (locs : List Loc) (ls : Array Slot) (s0 : St) (v1 : Int32) (v2 : Int32) (v3 : Int32) (v4 : Int32) (t1 : Int32) (t2 : Int32), Wh D cA ad shM A s s0 H locs → lv_has ls 5 [(0, .ref (ad 0)), (1, .int v1), (2, .int v2), (3, .int v3), (4, .int v4)] → F_Model_film_122 k41 s0 v1 v2 v3 v4 t1 t2 = (some (r, τ)) → W p l e rm_Model_film s m args below meth c H locs 0 0 (MQ below (QcI D cA ad shM A r τ) args s 0 0 A) (F0 m 122 ls [.int t2, .int t1, .ref (ad 13)]) := by
  have hx := K.1.1; have hb := K.1.2.1
  intro H locs ls s0 v1 v2 v3 v4 t1 t2 hw hl hF
  unfold F_Model_film_122 at hF
  obtain ⟨g_13, hF⟩ := ifG hF
  refine r_iast (k := t1.toNatClampNeg) K hw (show shM[13]? = some (.inr (.inl 160)) from rfl) rfl (inB_vp g_13) d_Model_film_122 (fun s_14 f_s_14 H locs hw => ?_)
  replace hF := ltN hF f_s_14
  refine lv_iinc (v := (v4 + 1)) (lv' := [(4, .int (v4 + 1)), (0, .ref (ad 0)), (1, .int v1), (2, .int v2), (3, .int v3)]) hx hb d_Model_film_123 hl (k := 4) rfl rfl (by decide) rfl (fun ls hl => ?_)
  refine lv_goto (tgt := 66) hx hb d_Model_film_126 (by decide) ?_
  exact hk41 _ _ _ _ _ _ _ _  hw (lv_sub hl [1, 2, 3, 4, 0] rfl) hF
def F_Model_film_97 (k41 : (St → Int32 → Int32 → Int32 → Int32 → Option (Int32 × St))) (s0 : St) (v1 : Int32) (v2 : Int32) (v3 : Int32) (v4 : Int32) : Option (Int32 × St) := (if v3 ≤ v4 then (F_Model_film_122 k41 s0 v1 v2 v3 v4 (((40 : Int32) * v1) + v4) (0 : Int32)) else (F_Model_film_122 k41 s0 v1 v2 v3 v4 (((40 : Int32) * v1) + v4) (s0.1 0 32)))
set_option maxHeartbeats 4000000 in
set_option maxRecDepth 100000 in
theorem q_Model_film_97 (K : Fx p s m args meth c b_Model_film 5 R_Model (some .int)) (k41 : (St → Int32 → Int32 → Int32 → Int32 → Option (Int32 × St))) (hk41 : ∀ (H : Heap) (locs : List Loc) (ls : Array Slot) (s0 : St) (v1 : Int32) (v2 : Int32) (v3 : Int32) (v4 : Int32), Wh D cA ad shM A s s0 H locs → lv_has ls 5 [(0, .ref (ad 0)), (1, .int v1), (2, .int v2), (3, .int v3), (4, .int v4)] → k41 s0 v1 v2 v3 v4 = (some (r, τ)) → W p l e rm_Model_film s m args below meth c H locs 0 0 (MQ below (QcI D cA ad shM A r τ) args s 0 0 A) (F0 m 66 ls [])) : ∀ (H : Heap) (locs : List Loc) (ls : Array Slot) (s0 : St) (v1 : Int32) (v2 : Int32) (v3 : Int32) (v4 : Int32), Wh D cA ad shM A s s0 H locs → lv_has ls 5 [(0, .ref (ad 0)), (1, .int v1), (2, .int v2), (3, .int v3), (4, .int v4)] → F_Model_film_97 k41 s0 v1 v2 v3 v4 = (some (r, τ)) → W p l e rm_Model_film s m args below meth c H locs 0 0 (MQ below (QcI D cA ad shM A r τ) args s 0 0 A) (F0 m 97 ls []) := by
  have hx := K.1.1; have hb := K.1.2.1
  intro H locs ls s0 v1 v2 v3 v4 hw hl hF
  unfold F_Model_film_97 at hF
  refine lv_aload_n hx hb d_Model_film_97 rfl (lv_at hl 0 rfl) ?_
  refine r_get (v := .ref (ad 13)) K hw i_Model sh_Model rfl 19 (by decide) w_1044 rfl rfl rfl d_Model_film_98 ?_
  refine lv_bipush (v := 40) hx hb d_Model_film_101 (by decide) ?_
  refine lv_iload_n hx hb d_Model_film_103 rfl (lv_at hl 1 rfl) ?_
  refine lv_imul hx hb d_Model_film_104 ?_
  refine lv_iload hx hb d_Model_film_105 (lv_at hl 4 rfl) ?_
  refine lv_iadd hx hb d_Model_film_107 ?_
  refine lv_iload hx hb d_Model_film_108 (lv_at hl 4 rfl) ?_
  refine lv_iload_n hx hb d_Model_film_110 rfl (lv_at hl 3 rfl) ?_
  refine lv_icmp_ge (tgt := 121) hx hb d_Model_film_111 (by decide) (fun c_12 => ?_) (fun c_12 => ?_)
  · replace hF := ifT hF c_12
    refine lv_iconst (v := 0) hx hb d_Model_film_121 (by decide) ?_
    exact q_Model_film_122 K k41 hk41 _ _ _ _ _ _ _ _ _ _  hw (lv_sub hl [0, 1, 2, 3, 4] rfl) hF
  · replace hF := ifF hF c_12
    refine lv_aload_n hx hb d_Model_film_114 rfl (lv_at hl 0 rfl) ?_
    refine r_get (v := .int (s0.1 0 32)) K hw i_Model sh_Model rfl 32 (by decide) w_1057 rfl rfl rfl d_Model_film_115 ?_
    refine lv_goto (tgt := 122) hx hb d_Model_film_118 (by decide) ?_
    exact q_Model_film_122 K k41 hk41 _ _ _ _ _ _ _ _ _ _  hw (lv_sub hl [0, 1, 2, 3, 4] rfl) hF
def F_Model_film_66 : Nat → St → Int32 → Int32 → Int32 → Int32 → Option (Int32 × St)
  | 0, _, _, _, _, _ => none
  | n + 1, s0, v1, v2, v3, v4 => (if (40 : Int32) ≤ v4 then (some (v3, s0)) else (if v3 ≤ v4 then (F_Model_film_97 (fun z0 zv1 zv2 zv3 zv4 => F_Model_film_66 n z0 zv1 zv2 zv3 zv4) s0 v1 v2 v3 v4) else (ob1 (F_Model_goesOn s0 (v2 / (10 : Int32)) (jrem v2 (10 : Int32)) (((5 : Int32) * v4) + (5 : Int32))) (fun s_15 => (F_Model_film_97 (fun z0 zv1 zv2 zv3 zv4 => F_Model_film_66 n z0 zv1 zv2 zv3 zv4) s_15 v1 v2 v3 v4)))))
set_option maxHeartbeats 4000000 in
set_option maxRecDepth 100000 in
theorem q_Model_film_66 (K : Fx p s m args meth c b_Model_film 5 R_Model (some .int))  : ∀ (n : Nat), ∀ (H : Heap) (locs : List Loc) (ls : Array Slot) (s0 : St) (v1 : Int32) (v2 : Int32) (v3 : Int32) (v4 : Int32), Wh D cA ad shM A s s0 H locs → lv_has ls 5 [(0, .ref (ad 0)), (1, .int v1), (2, .int v2), (3, .int v3), (4, .int v4)] → F_Model_film_66 n s0 v1 v2 v3 v4 = (some (r, τ)) → W p l e rm_Model_film s m args below meth c H locs 0 0 (MQ below (QcI D cA ad shM A r τ) args s 0 0 A) (F0 m 66 ls []) := by
  have hx := K.1.1; have hb := K.1.2.1
  intro n
  induction n with
  | zero =>
    intro H locs ls s0 v1 v2 v3 v4 hw hl hF
    exact absurd hF (by rw [F_Model_film_66]; exact nofun)
  | succ n ih =>
    intro H locs ls s0 v1 v2 v3 v4 hw hl hF
    rw [F_Model_film_66] at hF
    refine lv_iload hx hb d_Model_film_66 (lv_at hl 4 rfl) ?_
    refine lv_bipush (v := 40) hx hb d_Model_film_68 (by decide) ?_
    refine lv_icmp_ge (tgt := 129) hx hb d_Model_film_70 (by decide) (fun c_10 => ?_) (fun c_10 => ?_)
    · replace hF := ifT hF c_10
      refine lv_iload_n hx hb d_Model_film_129 rfl (lv_at hl 3 rfl) ?_
      cases hF
      exact r_iret K hw d_Model_film_130
    · replace hF := ifF hF c_10
      refine lv_iload hx hb d_Model_film_73 (lv_at hl 4 rfl) ?_
      refine lv_iload_n hx hb d_Model_film_75 rfl (lv_at hl 3 rfl) ?_
      refine lv_icmp_ge (tgt := 97) hx hb d_Model_film_76 (by decide) (fun c_11 => ?_) (fun c_11 => ?_)
      · replace hF := ifT hF c_11
        exact q_Model_film_97 K (fun z0 zv1 zv2 zv3 zv4 => F_Model_film_66 n z0 zv1 zv2 zv3 zv4) ih _ _ _ _ _ _ _ _  hw (lv_sub hl [0, 1, 2, 3, 4] rfl) hF
      · replace hF := ifF hF c_11
        refine lv_aload_n hx hb d_Model_film_79 rfl (lv_at hl 0 rfl) ?_
        refine lv_iload_n hx hb d_Model_film_80 rfl (lv_at hl 2 rfl) ?_
        refine lv_bipush (v := 10) hx hb d_Model_film_81 (by decide) ?_
        refine lv_idiv hx hb d_Model_film_83 (by decide) ?_
        refine lv_iload_n hx hb d_Model_film_84 rfl (lv_at hl 2 rfl) ?_
        refine lv_bipush (v := 10) hx hb d_Model_film_85 (by decide) ?_
        refine lv_irem hx hb d_Model_film_87 (by decide) ?_
        refine lv_iconst (v := 5) hx hb d_Model_film_88 (by decide) ?_
        refine lv_iload hx hb d_Model_film_89 (lv_at hl 4 rfl) ?_
        refine lv_imul hx hb d_Model_film_91 ?_
        refine lv_iconst (v := 5) hx hb d_Model_film_92 (by decide) ?_
        refine lv_iadd hx hb d_Model_film_93 ?_
        obtain ⟨s_15, h_s_15, hF⟩ := ob1E hF
        refine r_callVV (As := [.int (v2 / (10 : Int32)), .int (jrem v2 (10 : Int32)), .int (((5 : Int32) * v4) + (5 : Int32))]) (rest := []) K hw hl.1 (c_Model_goesOn (l := l) (D := D) (cA := cA) (ad := ad) (s0 := s0)  h_s_15) sh_Model rfl (tb_gV w_1234 w_1236 w_46 w_80 w_1237) a_Model_goesOn ⟨rfl, rfl, Nat.le_of_ble_eq_true rfl, Nat.le_of_ble_eq_true rfl⟩ rfl rfl (Nat.le_of_ble_eq_true rfl) d_Model_film_94 (fun H locs hw => ?_)
        exact q_Model_film_97 K (fun z0 zv1 zv2 zv3 zv4 => F_Model_film_66 n z0 zv1 zv2 zv3 zv4) ih _ _ _ _ _ _ _ _  hw (lv_sub hl [0, 1, 2, 3, 4] rfl) hF
def F_Model_film_0 (s0 : St) (v1 : Int32) (v2 : Int32) (v3 : Int32) : Option (Int32 × St) := (if ¬ (F_Model_in v1 (0 : Int32) (3 : Int32)) = 0 then (ob1 (F_Model_tellTwo s0 v2) (fun r_2 => (if ¬ r_2 = 0 then (if ¬ (F_Model_in v3 (0 : Int32) (8 : Int32)) = 0 then (if inB v1 4 = true then (lt (up1 s0 11 v1.toNatClampNeg (2 : Int32)) (fun s_6 => (if inB v1 4 = true then (lt (up1 s_6 12 v1.toNatClampNeg v3) (fun s_8 => (ob1 (F_Model_begins s_8 (v2 / (10 : Int32)) (jrem v2 (10 : Int32)) (0 : Int32)) (fun s_9 => (F_Model_film_66 FU s_9 v1 v2 v3 (0 : Int32)))))) else none))) else none) else (some ((-7 : Int32), s0))) else (some ((-5 : Int32), s0))))) else (some ((-2 : Int32), s0)))
set_option maxHeartbeats 4000000 in
set_option maxRecDepth 100000 in
theorem q_Model_film_0 (K : Fx p s m args meth c b_Model_film 5 R_Model (some .int))  : ∀ (H : Heap) (locs : List Loc) (ls : Array Slot) (s0 : St) (v1 : Int32) (v2 : Int32) (v3 : Int32), Wh D cA ad shM A s s0 H locs → lv_has ls 5 [(0, .ref (ad 0)), (1, .int v1), (2, .int v2), (3, .int v3)] → F_Model_film_0 s0 v1 v2 v3 = (some (r, τ)) → W p l e rm_Model_film s m args below meth c H locs 0 0 (MQ below (QcI D cA ad shM A r τ) args s 0 0 A) (F0 m 0 ls []) := by
  have hx := K.1.1; have hb := K.1.2.1
  intro H locs ls s0 v1 v2 v3 hw hl hF
  unfold F_Model_film_0 at hF
  refine lv_iload_n hx hb d_Model_film_0 rfl (lv_at hl 1 rfl) ?_
  refine lv_iconst (v := 0) hx hb d_Model_film_1 (by decide) ?_
  refine lv_iconst (v := 3) hx hb d_Model_film_2 (by decide) ?_
  refine r_callSI (As := [.int v1, .int (0 : Int32), .int (3 : Int32)]) (rest := []) K hw hl.1 (c_Model_in (l := l) (D := D) (cA := cA) (ad := ad) (s0 := s0)  rfl) (tb_gS w_986 w_987 w_80 w_988) a_Model_in ⟨rfl, rfl, Nat.le_of_ble_eq_true rfl, Nat.le_of_ble_eq_true rfl⟩ rfl rfl (Nat.le_of_ble_eq_true rfl) d_Model_film_3 (fun H locs hw => ?_)
  refine lv_if_ne (tgt := 12) hx hb d_Model_film_6 (by decide) (fun c_1 => ?_) (fun c_1 => ?_)
  · replace hF := ifT hF c_1
    refine lv_aload_n hx hb d_Model_film_12 rfl (lv_at hl 0 rfl) ?_
    refine lv_iload_n hx hb d_Model_film_13 rfl (lv_at hl 2 rfl) ?_
    obtain ⟨r_2, h_r_2, hF⟩ := ob1E hF
    refine r_callVI (As := [.int v2]) (rest := []) K hw hl.1 (c_Model_tellTwo (l := l) (D := D) (cA := cA) (ad := ad) (s0 := s0)  h_r_2) sh_Model rfl (tb_gV w_1222 w_1224 w_43 w_80 w_1225) a_Model_tellTwo ⟨rfl, rfl, Nat.le_of_ble_eq_true rfl, Nat.le_of_ble_eq_true rfl⟩ rfl rfl (Nat.le_of_ble_eq_true rfl) d_Model_film_14 (fun H locs hw => ?_)
    refine lv_if_ne (tgt := 23) hx hb d_Model_film_17 (by decide) (fun c_3 => ?_) (fun c_3 => ?_)
    · replace hF := ifT hF c_3
      refine lv_iload_n hx hb d_Model_film_23 rfl (lv_at hl 3 rfl) ?_
      refine lv_iconst (v := 0) hx hb d_Model_film_24 (by decide) ?_
      refine lv_bipush (v := 8) hx hb d_Model_film_25 (by decide) ?_
      refine r_callSI (As := [.int v3, .int (0 : Int32), .int (8 : Int32)]) (rest := []) K hw hl.1 (c_Model_in (l := l) (D := D) (cA := cA) (ad := ad) (s0 := s0)  rfl) (tb_gS w_986 w_987 w_80 w_988) a_Model_in ⟨rfl, rfl, Nat.le_of_ble_eq_true rfl, Nat.le_of_ble_eq_true rfl⟩ rfl rfl (Nat.le_of_ble_eq_true rfl) d_Model_film_27 (fun H locs hw => ?_)
      refine lv_if_ne (tgt := 36) hx hb d_Model_film_30 (by decide) (fun c_4 => ?_) (fun c_4 => ?_)
      · replace hF := ifT hF c_4
        refine lv_aload_n hx hb d_Model_film_36 rfl (lv_at hl 0 rfl) ?_
        refine r_get (v := .ref (ad 11)) K hw i_Model sh_Model rfl 17 (by decide) w_1042 rfl rfl rfl d_Model_film_37 ?_
        refine lv_iload_n hx hb d_Model_film_40 rfl (lv_at hl 1 rfl) ?_
        refine lv_iconst (v := 2) hx hb d_Model_film_41 (by decide) ?_
        obtain ⟨g_5, hF⟩ := ifG hF
        refine r_iast (k := v1.toNatClampNeg) K hw (show shM[11]? = some (.inr (.inl 4)) from rfl) rfl (inB_vp g_5) d_Model_film_42 (fun s_6 f_s_6 H locs hw => ?_)
        replace hF := ltN hF f_s_6
        refine lv_aload_n hx hb d_Model_film_43 rfl (lv_at hl 0 rfl) ?_
        refine r_get (v := .ref (ad 12)) K hw i_Model sh_Model rfl 18 (by decide) w_1043 rfl rfl rfl d_Model_film_44 ?_
        refine lv_iload_n hx hb d_Model_film_47 rfl (lv_at hl 1 rfl) ?_
        refine lv_iload_n hx hb d_Model_film_48 rfl (lv_at hl 3 rfl) ?_
        obtain ⟨g_7, hF⟩ := ifG hF
        refine r_iast (k := v1.toNatClampNeg) K hw (show shM[12]? = some (.inr (.inl 4)) from rfl) rfl (inB_vp g_7) d_Model_film_49 (fun s_8 f_s_8 H locs hw => ?_)
        replace hF := ltN hF f_s_8
        refine lv_aload_n hx hb d_Model_film_50 rfl (lv_at hl 0 rfl) ?_
        refine lv_iload_n hx hb d_Model_film_51 rfl (lv_at hl 2 rfl) ?_
        refine lv_bipush (v := 10) hx hb d_Model_film_52 (by decide) ?_
        refine lv_idiv hx hb d_Model_film_54 (by decide) ?_
        refine lv_iload_n hx hb d_Model_film_55 rfl (lv_at hl 2 rfl) ?_
        refine lv_bipush (v := 10) hx hb d_Model_film_56 (by decide) ?_
        refine lv_irem hx hb d_Model_film_58 (by decide) ?_
        refine lv_iconst (v := 0) hx hb d_Model_film_59 (by decide) ?_
        obtain ⟨s_9, h_s_9, hF⟩ := ob1E hF
        refine r_callVV (As := [.int (v2 / (10 : Int32)), .int (jrem v2 (10 : Int32)), .int (0 : Int32)]) (rest := []) K hw hl.1 (c_Model_begins (l := l) (D := D) (cA := cA) (ad := ad) (s0 := s_8)  h_s_9) sh_Model rfl (tb_gV w_1230 w_1232 w_45 w_80 w_1233) a_Model_begins ⟨rfl, rfl, Nat.le_of_ble_eq_true rfl, Nat.le_of_ble_eq_true rfl⟩ rfl rfl (Nat.le_of_ble_eq_true rfl) d_Model_film_60 (fun H locs hw => ?_)
        refine lv_iconst (v := 0) hx hb d_Model_film_63 (by decide) ?_
        refine lv_istore (lv' := [(4, .int (0 : Int32)), (0, .ref (ad 0)), (1, .int v1), (2, .int v2), (3, .int v3)]) hx hb d_Model_film_64 hl (by decide) rfl (fun ls hl => ?_)
        exact q_Model_film_66 K FU _ _ _ _ _ _ _ _  hw (lv_sub hl [1, 2, 3, 4, 0] rfl) hF
      · replace hF := ifN hF c_4
        refine lv_bipush (v := -7) hx hb d_Model_film_33 (by decide) ?_
        cases hF
        exact r_iret K hw d_Model_film_35
    · replace hF := ifN hF c_3
      refine lv_bipush (v := -5) hx hb d_Model_film_20 (by decide) ?_
      cases hF
      exact r_iret K hw d_Model_film_22
  · replace hF := ifN hF c_1
    refine lv_bipush (v := -2) hx hb d_Model_film_9 (by decide) ?_
    cases hF
    exact r_iret K hw d_Model_film_11
end S_Model_film
abbrev F_Model_film := F_Model_film_0
theorem c_Model_film {l : Launch} {D : va_G} {cA : Nat → ClassId} {ad : Nat → Nat} {s0 τ : St} {r : Int32} {v1 : Int32} {v2 : Int32} {v3 : Int32}  (hF : F_Model_film s0 v1 v2 v3 = (some (r, τ))) : MI l D cA ad shM y_Model_film (wT y_Model_film b_Model_film 5 (some .int)) rm_Model_film [.ref (ad 0), .int v1, .int v2, .int v3] s0 r τ :=
  fun sz => m_start (Qc := fun A => QcI D cA ad shM A r τ) (by decide +kernel) w_1362 (Nat.le_of_ble_eq_true rfl) (fun p e s m below meth c ls K hl hw => q_Model_film_0 K _ _ _ _ _ _ _  hw hl hF)

/-! Model.winnerBy(III)I -/
abbrev b_Model_winnerBy : ByteArray := prog_13_method_67_code
def y_Model_winnerBy : MethodName := ⟨R_Model, "winnerBy", "(III)I"⟩
abbrev rm_Model_winnerBy : Room := { frames := 7, cells := 0, slots := 0, locals := 175 }
theorem a_Model_winnerBy : y_Model_winnerBy.cls = R_Model ∧ y_Model_winnerBy.cls ≠ "java/lang/invoke/MethodHandle" ∧ y_Model_winnerBy.cls ≠ "java/lang/invoke/VarHandle" ∧ (parseMethodDescriptor y_Model_winnerBy.desc).map (fun d => d.parameters.length) = some 3 := by decide +kernel
theorem w_1372 : Cond.constantLong R_Model 275 (48271) ∈ TB := tb_in 1372 (by decide +kernel) (by decide +kernel)
theorem w_1373 : Cond.constantLong R_Model 277 (2147483647) ∈ TB := tb_in 1373 (by decide +kernel) (by decide +kernel)
theorem w_1374 : Cond.constantLong R_Model 279 (4) ∈ TB := tb_in 1374 (by decide +kernel) (by decide +kernel)
theorem w_1371 : Cond.code y_Model_winnerBy b_Model_winnerBy 6 (some .int) ∈ TB := tb_in 1371 (by decide +kernel) (by decide +kernel)
theorem d_Model_winnerBy_0 : decode b_Model_winnerBy 0 = .ok (.iload_n 1, 1) := by decide +kernel
theorem d_Model_winnerBy_1 : decode b_Model_winnerBy 1 = .ok (.i2l, 1) := by decide +kernel
theorem d_Model_winnerBy_2 : decode b_Model_winnerBy 2 = .ok (.lconst 1, 1) := by decide +kernel
theorem d_Model_winnerBy_3 : decode b_Model_winnerBy 3 = .ok (.ladd, 1) := by decide +kernel
theorem d_Model_winnerBy_4 : decode b_Model_winnerBy 4 = .ok (.ldc2_w 275, 3) := by decide +kernel
theorem d_Model_winnerBy_7 : decode b_Model_winnerBy 7 = .ok (.lmul, 1) := by decide +kernel
theorem d_Model_winnerBy_8 : decode b_Model_winnerBy 8 = .ok (.ldc2_w 277, 3) := by decide +kernel
theorem d_Model_winnerBy_11 : decode b_Model_winnerBy 11 = .ok (.lrem, 1) := by decide +kernel
theorem d_Model_winnerBy_12 : decode b_Model_winnerBy 12 = .ok (.lstore 4, 2) := by decide +kernel
theorem d_Model_winnerBy_14 : decode b_Model_winnerBy 14 = .ok (.aload_n 0, 1) := by decide +kernel
theorem d_Model_winnerBy_15 : decode b_Model_winnerBy 15 = .ok (.lload 4, 2) := by decide +kernel
theorem d_Model_winnerBy_17 : decode b_Model_winnerBy 17 = .ok (.ldc2_w 279, 3) := by decide +kernel
theorem d_Model_winnerBy_20 : decode b_Model_winnerBy 20 = .ok (.lrem, 1) := by decide +kernel
theorem d_Model_winnerBy_21 : decode b_Model_winnerBy 21 = .ok (.l2i, 1) := by decide +kernel
theorem d_Model_winnerBy_22 : decode b_Model_winnerBy 22 = .ok (.putfield 175, 3) := by decide +kernel
theorem d_Model_winnerBy_25 : decode b_Model_winnerBy 25 = .ok (.lload 4, 2) := by decide +kernel
theorem d_Model_winnerBy_27 : decode b_Model_winnerBy 27 = .ok (.ldc2_w 275, 3) := by decide +kernel
theorem d_Model_winnerBy_30 : decode b_Model_winnerBy 30 = .ok (.lmul, 1) := by decide +kernel
theorem d_Model_winnerBy_31 : decode b_Model_winnerBy 31 = .ok (.ldc2_w 277, 3) := by decide +kernel
theorem d_Model_winnerBy_34 : decode b_Model_winnerBy 34 = .ok (.lrem, 1) := by decide +kernel
theorem d_Model_winnerBy_35 : decode b_Model_winnerBy 35 = .ok (.lstore 4, 2) := by decide +kernel
theorem d_Model_winnerBy_37 : decode b_Model_winnerBy 37 = .ok (.aload_n 0, 1) := by decide +kernel
theorem d_Model_winnerBy_38 : decode b_Model_winnerBy 38 = .ok (.lload 4, 2) := by decide +kernel
theorem d_Model_winnerBy_40 : decode b_Model_winnerBy 40 = .ok (.ldc2_w 279, 3) := by decide +kernel
theorem d_Model_winnerBy_43 : decode b_Model_winnerBy 43 = .ok (.lrem, 1) := by decide +kernel
theorem d_Model_winnerBy_44 : decode b_Model_winnerBy 44 = .ok (.l2i, 1) := by decide +kernel
theorem d_Model_winnerBy_45 : decode b_Model_winnerBy 45 = .ok (.putfield 181, 3) := by decide +kernel
theorem d_Model_winnerBy_48 : decode b_Model_winnerBy 48 = .ok (.aload_n 0, 1) := by decide +kernel
theorem d_Model_winnerBy_49 : decode b_Model_winnerBy 49 = .ok (.iload_n 2, 1) := by decide +kernel
theorem d_Model_winnerBy_50 : decode b_Model_winnerBy 50 = .ok (.iload_n 3, 1) := by decide +kernel
theorem d_Model_winnerBy_51 : decode b_Model_winnerBy 51 = .ok (.invokevirtual 216, 3) := by decide +kernel
theorem d_Model_winnerBy_54 : decode b_Model_winnerBy 54 = .ok (.aload_n 0, 1) := by decide +kernel
theorem d_Model_winnerBy_55 : decode b_Model_winnerBy 55 = .ok (.iconst 0, 1) := by decide +kernel
theorem d_Model_winnerBy_56 : decode b_Model_winnerBy 56 = .ok (.putfield 175, 3) := by decide +kernel
theorem d_Model_winnerBy_59 : decode b_Model_winnerBy 59 = .ok (.aload_n 0, 1) := by decide +kernel
theorem d_Model_winnerBy_60 : decode b_Model_winnerBy 60 = .ok (.iconst 0, 1) := by decide +kernel
theorem d_Model_winnerBy_61 : decode b_Model_winnerBy 61 = .ok (.putfield 181, 3) := by decide +kernel
theorem d_Model_winnerBy_64 : decode b_Model_winnerBy 64 = .ok (.aload_n 0, 1) := by decide +kernel
theorem d_Model_winnerBy_65 : decode b_Model_winnerBy 65 = .ok (.iload_n 2, 1) := by decide +kernel
theorem d_Model_winnerBy_66 : decode b_Model_winnerBy 66 = .ok (.iload_n 3, 1) := by decide +kernel
theorem d_Model_winnerBy_67 : decode b_Model_winnerBy 67 = .ok (.invokevirtual 223, 3) := by decide +kernel
theorem d_Model_winnerBy_70 : decode b_Model_winnerBy 70 = .ok (.ireturn, 1) := by decide +kernel
section S_Model_winnerBy
variable {p : Program} {l : Launch} {e : Env} {s : State} {m : MethodId} {args : Array Value} {below : List Frame} {meth : Method} {c : Code} {D : va_G} {cA : Nat → ClassId} {ad : Nat → Nat} {A : Nat → Prop} {r : Int32} {τ : St}
def F_Model_winnerBy_0 (s0 : St) (v1 : Int32) (v2 : Int32) (v3 : Int32) : Option (Int32 × St) := (lt ((jremL (((v1.toInt64) + (1 : Int64)) * (48271 : Int64)) (2147483647 : Int64))) (fun w_1 => (lt (up1 s0 0 37 ((jremL w_1 (4 : Int64)).toInt32)) (fun s_2 => (lt ((jremL (w_1 * (48271 : Int64)) (2147483647 : Int64))) (fun w_3 => (lt (up1 s_2 0 38 ((jremL w_3 (4 : Int64)).toInt32)) (fun s_4 => (ob1 (F_Model_bouts s_4 v2 v3) (fun s_5 => (lt (up1 s_5 0 37 (0 : Int32)) (fun s_6 => (lt (up1 s_6 0 38 (0 : Int32)) (fun s_7 => (some ((F_Model_winner s_7 v2 v3), s_7))))))))))))))))
set_option maxHeartbeats 4000000 in
set_option maxRecDepth 100000 in
theorem q_Model_winnerBy_0 (K : Fx p s m args meth c b_Model_winnerBy 6 R_Model (some .int))  : ∀ (H : Heap) (locs : List Loc) (ls : Array Slot) (s0 : St) (v1 : Int32) (v2 : Int32) (v3 : Int32), Wh D cA ad shM A s s0 H locs → lv_has ls 6 [(0, .ref (ad 0)), (1, .int v1), (2, .int v2), (3, .int v3)] → F_Model_winnerBy_0 s0 v1 v2 v3 = (some (r, τ)) → W p l e rm_Model_winnerBy s m args below meth c H locs 0 0 (MQ below (QcI D cA ad shM A r τ) args s 0 0 A) (F0 m 0 ls []) := by
  have hx := K.1.1; have hb := K.1.2.1
  intro H locs ls s0 v1 v2 v3 hw hl hF
  unfold F_Model_winnerBy_0 at hF
  refine lv_iload_n hx hb d_Model_winnerBy_0 rfl (lv_at hl 1 rfl) ?_
  refine lv_i2l (v := v1.toInt64) hx hb d_Model_winnerBy_1 rfl ?_
  refine lv_lconst (v := 1) hx hb d_Model_winnerBy_2 (by decide) ?_
  refine lv_ladd hx hb d_Model_winnerBy_3 ?_
  refine lv_ldc2 (v := 48271) hx hb K.1.2.2.2.1 (K.1.2.2.2.2 _ w_1372) d_Model_winnerBy_4 ?_
  refine lv_lmul hx hb d_Model_winnerBy_7 ?_
  refine lv_ldc2 (v := 2147483647) hx hb K.1.2.2.2.1 (K.1.2.2.2.2 _ w_1373) d_Model_winnerBy_8 ?_
  refine lv_lrem hx hb d_Model_winnerBy_11 (by decide) ?_
  refine lv_topl (fun w_1 f_w_1 => ?_)
  replace hF := ltN hF f_w_1
  refine lv_lstore (lv' := [(4, .long w_1), (0, .ref (ad 0)), (1, .int v1), (2, .int v2), (3, .int v3)]) hx hb d_Model_winnerBy_12 hl (by decide) rfl (fun ls hl => ?_)
  refine lv_aload_n hx hb d_Model_winnerBy_14 rfl (lv_at hl 1 rfl) ?_
  refine lv_lload hx hb d_Model_winnerBy_15 (lv_at hl 0 rfl) ?_
  refine lv_ldc2 (v := 4) hx hb K.1.2.2.2.1 (K.1.2.2.2.2 _ w_1374) d_Model_winnerBy_17 ?_
  refine lv_lrem hx hb d_Model_winnerBy_20 (by decide) ?_
  refine lv_l2i (v := (jremL w_1 (4 : Int64)).toInt32) hx hb d_Model_winnerBy_21 rfl ?_
  refine r_putI K hw i_Model t_Model t_Model_ok n_Model sh_Model rfl 37 (by decide) w_1062 rfl rfl rfl rfl rfl d_Model_winnerBy_22 (fun s_2 f_s_2 H locs hw => ?_)
  replace hF := ltN hF f_s_2
  refine lv_lload hx hb d_Model_winnerBy_25 (lv_at hl 0 rfl) ?_
  refine lv_ldc2 (v := 48271) hx hb K.1.2.2.2.1 (K.1.2.2.2.2 _ w_1372) d_Model_winnerBy_27 ?_
  refine lv_lmul hx hb d_Model_winnerBy_30 ?_
  refine lv_ldc2 (v := 2147483647) hx hb K.1.2.2.2.1 (K.1.2.2.2.2 _ w_1373) d_Model_winnerBy_31 ?_
  refine lv_lrem hx hb d_Model_winnerBy_34 (by decide) ?_
  refine lv_topl (fun w_3 f_w_3 => ?_)
  replace hF := ltN hF f_w_3
  refine lv_lstore (lv' := [(4, .long w_3), (0, .ref (ad 0)), (1, .int v1), (2, .int v2), (3, .int v3)]) hx hb d_Model_winnerBy_35 hl (by decide) rfl (fun ls hl => ?_)
  refine lv_aload_n hx hb d_Model_winnerBy_37 rfl (lv_at hl 1 rfl) ?_
  refine lv_lload hx hb d_Model_winnerBy_38 (lv_at hl 0 rfl) ?_
  refine lv_ldc2 (v := 4) hx hb K.1.2.2.2.1 (K.1.2.2.2.2 _ w_1374) d_Model_winnerBy_40 ?_
  refine lv_lrem hx hb d_Model_winnerBy_43 (by decide) ?_
  refine lv_l2i (v := (jremL w_3 (4 : Int64)).toInt32) hx hb d_Model_winnerBy_44 rfl ?_
  refine r_putI K hw i_Model t_Model t_Model_ok n_Model sh_Model rfl 38 (by decide) w_1063 rfl rfl rfl rfl rfl d_Model_winnerBy_45 (fun s_4 f_s_4 H locs hw => ?_)
  replace hF := ltN hF f_s_4
  refine lv_aload_n hx hb d_Model_winnerBy_48 rfl (lv_at hl 1 rfl) ?_
  refine lv_iload_n hx hb d_Model_winnerBy_49 rfl (lv_at hl 3 rfl) ?_
  refine lv_iload_n hx hb d_Model_winnerBy_50 rfl (lv_at hl 4 rfl) ?_
  obtain ⟨s_5, h_s_5, hF⟩ := ob1E hF
  refine r_callVV (As := [.int v2, .int v3]) (rest := []) K hw hl.1 (c_Model_bouts (l := l) (D := D) (cA := cA) (ad := ad) (s0 := s_4)  h_s_5) sh_Model rfl (tb_gV w_1257 w_1259 w_50 w_80 w_1260) a_Model_bouts ⟨rfl, rfl, Nat.le_of_ble_eq_true rfl, Nat.le_of_ble_eq_true rfl⟩ rfl rfl (Nat.le_of_ble_eq_true rfl) d_Model_winnerBy_51 (fun H locs hw => ?_)
  refine lv_aload_n hx hb d_Model_winnerBy_54 rfl (lv_at hl 1 rfl) ?_
  refine lv_iconst (v := 0) hx hb d_Model_winnerBy_55 (by decide) ?_
  refine r_putI K hw i_Model t_Model t_Model_ok n_Model sh_Model rfl 37 (by decide) w_1062 rfl rfl rfl rfl rfl d_Model_winnerBy_56 (fun s_6 f_s_6 H locs hw => ?_)
  replace hF := ltN hF f_s_6
  refine lv_aload_n hx hb d_Model_winnerBy_59 rfl (lv_at hl 1 rfl) ?_
  refine lv_iconst (v := 0) hx hb d_Model_winnerBy_60 (by decide) ?_
  refine r_putI K hw i_Model t_Model t_Model_ok n_Model sh_Model rfl 38 (by decide) w_1063 rfl rfl rfl rfl rfl d_Model_winnerBy_61 (fun s_7 f_s_7 H locs hw => ?_)
  replace hF := ltN hF f_s_7
  refine lv_aload_n hx hb d_Model_winnerBy_64 rfl (lv_at hl 1 rfl) ?_
  refine lv_iload_n hx hb d_Model_winnerBy_65 rfl (lv_at hl 3 rfl) ?_
  refine lv_iload_n hx hb d_Model_winnerBy_66 rfl (lv_at hl 4 rfl) ?_
  refine r_callVI (As := [.int v2, .int v3]) (rest := []) K hw hl.1 (c_Model_winner (l := l) (D := D) (cA := cA) (ad := ad) (s0 := s_7)  rfl) sh_Model rfl (tb_gV w_1261 w_1263 w_51 w_80 w_1264) a_Model_winner ⟨rfl, rfl, Nat.le_of_ble_eq_true rfl, Nat.le_of_ble_eq_true rfl⟩ rfl rfl (Nat.le_of_ble_eq_true rfl) d_Model_winnerBy_67 (fun H locs hw => ?_)
  cases hF
  exact r_iret K hw d_Model_winnerBy_70
end S_Model_winnerBy
abbrev F_Model_winnerBy := F_Model_winnerBy_0
theorem c_Model_winnerBy {l : Launch} {D : va_G} {cA : Nat → ClassId} {ad : Nat → Nat} {s0 τ : St} {r : Int32} {v1 : Int32} {v2 : Int32} {v3 : Int32}  (hF : F_Model_winnerBy s0 v1 v2 v3 = (some (r, τ))) : MI l D cA ad shM y_Model_winnerBy (wT y_Model_winnerBy b_Model_winnerBy 6 (some .int)) rm_Model_winnerBy [.ref (ad 0), .int v1, .int v2, .int v3] s0 r τ :=
  fun sz => m_start (Qc := fun A => QcI D cA ad shM A r τ) (by decide +kernel) w_1371 (Nat.le_of_ble_eq_true rfl) (fun p e s m below meth c ls K hl hw => q_Model_winnerBy_0 K _ _ _ _ _ _ _  hw hl hF)

/-! Model.drawn(III)I -/
abbrev b_Model_drawn : ByteArray := prog_13_method_68_code
def y_Model_drawn : MethodName := ⟨R_Model, "drawn", "(III)I"⟩
abbrev rm_Model_drawn : Room := { frames := 8, cells := 0, slots := 0, locals := 200 }
theorem a_Model_drawn : y_Model_drawn.cls = R_Model ∧ y_Model_drawn.cls ≠ "java/lang/invoke/MethodHandle" ∧ y_Model_drawn.cls ≠ "java/lang/invoke/VarHandle" ∧ (parseMethodDescriptor y_Model_drawn.desc).map (fun d => d.parameters.length) = some 3 := by decide +kernel
theorem w_1367 : Cond.constant R_Model 281 99999 ∈ TB := tb_in 1367 (by decide +kernel) (by decide +kernel)
theorem w_1368 : Cond.methodLink R_Model 282 y_Model_winnerBy ∈ TB := tb_in 1368 (by decide +kernel) (by decide +kernel)
theorem w_1370 : Cond.instanceMethod y_Model_winnerBy ∈ TB := tb_in 1370 (by decide +kernel) (by decide +kernel)
theorem w_61 : Cond.selects R_Model y_Model_winnerBy y_Model_winnerBy ∈ TB := tb_in 61 (by decide +kernel) (by decide +kernel)
theorem w_1366 : Cond.code y_Model_drawn b_Model_drawn 4 (some .int) ∈ TB := tb_in 1366 (by decide +kernel) (by decide +kernel)
theorem d_Model_drawn_0 : decode b_Model_drawn 0 = .ok (.aload_n 0, 1) := by decide +kernel
theorem d_Model_drawn_1 : decode b_Model_drawn 1 = .ok (.iload_n 2, 1) := by decide +kernel
theorem d_Model_drawn_2 : decode b_Model_drawn 2 = .ok (.iload_n 3, 1) := by decide +kernel
theorem d_Model_drawn_3 : decode b_Model_drawn 3 = .ok (.invokevirtual 86, 3) := by decide +kernel
theorem d_Model_drawn_6 : decode b_Model_drawn 6 = .ok (.ifCond .ne 6, 3) := by decide +kernel
theorem d_Model_drawn_9 : decode b_Model_drawn 9 = .ok (.bipush (-5), 2) := by decide +kernel
theorem d_Model_drawn_11 : decode b_Model_drawn 11 = .ok (.ireturn, 1) := by decide +kernel
theorem d_Model_drawn_12 : decode b_Model_drawn 12 = .ok (.iload_n 1, 1) := by decide +kernel
theorem d_Model_drawn_13 : decode b_Model_drawn 13 = .ok (.iconst 0, 1) := by decide +kernel
theorem d_Model_drawn_14 : decode b_Model_drawn 14 = .ok (.ldc_w 281, 3) := by decide +kernel
theorem d_Model_drawn_17 : decode b_Model_drawn 17 = .ok (.invokestatic 78, 3) := by decide +kernel
theorem d_Model_drawn_20 : decode b_Model_drawn 20 = .ok (.ifCond .eq 13, 3) := by decide +kernel
theorem d_Model_drawn_23 : decode b_Model_drawn 23 = .ok (.aload_n 0, 1) := by decide +kernel
theorem d_Model_drawn_24 : decode b_Model_drawn 24 = .ok (.iload_n 1, 1) := by decide +kernel
theorem d_Model_drawn_25 : decode b_Model_drawn 25 = .ok (.iload_n 2, 1) := by decide +kernel
theorem d_Model_drawn_26 : decode b_Model_drawn 26 = .ok (.iload_n 3, 1) := by decide +kernel
theorem d_Model_drawn_27 : decode b_Model_drawn 27 = .ok (.invokevirtual 282, 3) := by decide +kernel
theorem d_Model_drawn_30 : decode b_Model_drawn 30 = .ok (.goto 5, 3) := by decide +kernel
theorem d_Model_drawn_33 : decode b_Model_drawn 33 = .ok (.bipush (-7), 2) := by decide +kernel
theorem d_Model_drawn_35 : decode b_Model_drawn 35 = .ok (.ireturn, 1) := by decide +kernel
section S_Model_drawn
variable {p : Program} {l : Launch} {e : Env} {s : State} {m : MethodId} {args : Array Value} {below : List Frame} {meth : Method} {c : Code} {D : va_G} {cA : Nat → ClassId} {ad : Nat → Nat} {A : Nat → Prop} {r : Int32} {τ : St}
def F_Model_drawn_0 (s0 : St) (v1 : Int32) (v2 : Int32) (v3 : Int32) : Option (Int32 × St) := (ob1 (F_Model_areTwo s0 v2 v3) (fun r_1 => (if ¬ r_1 = 0 then (if (F_Model_in v1 (0 : Int32) (99999 : Int32)) = 0 then (some ((-7 : Int32), s0)) else (ob2 (F_Model_winnerBy s0 v1 v2 v3) (fun r_4 s_5 => (some (r_4, s_5))))) else (some ((-5 : Int32), s0)))))
set_option maxHeartbeats 4000000 in
set_option maxRecDepth 100000 in
theorem q_Model_drawn_0 (K : Fx p s m args meth c b_Model_drawn 4 R_Model (some .int))  : ∀ (H : Heap) (locs : List Loc) (ls : Array Slot) (s0 : St) (v1 : Int32) (v2 : Int32) (v3 : Int32), Wh D cA ad shM A s s0 H locs → lv_has ls 4 [(0, .ref (ad 0)), (1, .int v1), (2, .int v2), (3, .int v3)] → F_Model_drawn_0 s0 v1 v2 v3 = (some (r, τ)) → W p l e rm_Model_drawn s m args below meth c H locs 0 0 (MQ below (QcI D cA ad shM A r τ) args s 0 0 A) (F0 m 0 ls []) := by
  have hx := K.1.1; have hb := K.1.2.1
  intro H locs ls s0 v1 v2 v3 hw hl hF
  unfold F_Model_drawn_0 at hF
  refine lv_aload_n hx hb d_Model_drawn_0 rfl (lv_at hl 0 rfl) ?_
  refine lv_iload_n hx hb d_Model_drawn_1 rfl (lv_at hl 2 rfl) ?_
  refine lv_iload_n hx hb d_Model_drawn_2 rfl (lv_at hl 3 rfl) ?_
  obtain ⟨r_1, h_r_1, hF⟩ := ob1E hF
  refine r_callVI (As := [.int v2, .int v3]) (rest := []) K hw hl.1 (c_Model_areTwo (l := l) (D := D) (cA := cA) (ad := ad) (s0 := s0)  h_r_1) sh_Model rfl (tb_gV w_1226 w_1228 w_44 w_80 w_1229) a_Model_areTwo ⟨rfl, rfl, Nat.le_of_ble_eq_true rfl, Nat.le_of_ble_eq_true rfl⟩ rfl rfl (Nat.le_of_ble_eq_true rfl) d_Model_drawn_3 (fun H locs hw => ?_)
  refine lv_if_ne (tgt := 12) hx hb d_Model_drawn_6 (by decide) (fun c_2 => ?_) (fun c_2 => ?_)
  · replace hF := ifT hF c_2
    refine lv_iload_n hx hb d_Model_drawn_12 rfl (lv_at hl 1 rfl) ?_
    refine lv_iconst (v := 0) hx hb d_Model_drawn_13 (by decide) ?_
    refine lv_ldcw (v := 99999) hx hb K.1.2.2.2.1 (K.1.2.2.2.2 _ w_1367) d_Model_drawn_14 ?_
    refine r_callSI (As := [.int v1, .int (0 : Int32), .int (99999 : Int32)]) (rest := []) K hw hl.1 (c_Model_in (l := l) (D := D) (cA := cA) (ad := ad) (s0 := s0)  rfl) (tb_gS w_986 w_987 w_80 w_988) a_Model_in ⟨rfl, rfl, Nat.le_of_ble_eq_true rfl, Nat.le_of_ble_eq_true rfl⟩ rfl rfl (Nat.le_of_ble_eq_true rfl) d_Model_drawn_17 (fun H locs hw => ?_)
    refine lv_if_eq (tgt := 33) hx hb d_Model_drawn_20 (by decide) (fun c_3 => ?_) (fun c_3 => ?_)
    · replace hF := ifT hF c_3
      refine lv_bipush (v := -7) hx hb d_Model_drawn_33 (by decide) ?_
      cases hF
      exact r_iret K hw d_Model_drawn_35
    · replace hF := ifF hF c_3
      refine lv_aload_n hx hb d_Model_drawn_23 rfl (lv_at hl 0 rfl) ?_
      refine lv_iload_n hx hb d_Model_drawn_24 rfl (lv_at hl 1 rfl) ?_
      refine lv_iload_n hx hb d_Model_drawn_25 rfl (lv_at hl 2 rfl) ?_
      refine lv_iload_n hx hb d_Model_drawn_26 rfl (lv_at hl 3 rfl) ?_
      obtain ⟨r_4, s_5, h_s_5, hF⟩ := ob2E hF
      refine r_callVI (As := [.int v1, .int v2, .int v3]) (rest := []) K hw hl.1 (c_Model_winnerBy (l := l) (D := D) (cA := cA) (ad := ad) (s0 := s0)  h_s_5) sh_Model rfl (tb_gV w_1368 w_1370 w_61 w_80 w_1371) a_Model_winnerBy ⟨rfl, rfl, Nat.le_of_ble_eq_true rfl, Nat.le_of_ble_eq_true rfl⟩ rfl rfl (Nat.le_of_ble_eq_true rfl) d_Model_drawn_27 (fun H locs hw => ?_)
      refine lv_goto (tgt := 35) hx hb d_Model_drawn_30 (by decide) ?_
      cases hF
      exact r_iret K hw d_Model_drawn_35
  · replace hF := ifN hF c_2
    refine lv_bipush (v := -5) hx hb d_Model_drawn_9 (by decide) ?_
    cases hF
    exact r_iret K hw d_Model_drawn_11
end S_Model_drawn
abbrev F_Model_drawn := F_Model_drawn_0
theorem c_Model_drawn {l : Launch} {D : va_G} {cA : Nat → ClassId} {ad : Nat → Nat} {s0 τ : St} {r : Int32} {v1 : Int32} {v2 : Int32} {v3 : Int32}  (hF : F_Model_drawn s0 v1 v2 v3 = (some (r, τ))) : MI l D cA ad shM y_Model_drawn (wT y_Model_drawn b_Model_drawn 4 (some .int)) rm_Model_drawn [.ref (ad 0), .int v1, .int v2, .int v3] s0 r τ :=
  fun sz => m_start (Qc := fun A => QcI D cA ad shM A r τ) (by decide +kernel) w_1366 (Nat.le_of_ble_eq_true rfl) (fun p e s m below meth c ls K hl hw => q_Model_drawn_0 K _ _ _ _ _ _ _  hw hl hF)

/-! Model.lowest(JJI)J -/
abbrev b_Model_lowest : ByteArray := prog_13_method_69_code
def y_Model_lowest : MethodName := ⟨R_Model, "lowest", "(JJI)J"⟩
abbrev rm_Model_lowest : Room := { frames := 0, cells := 0, slots := 0, locals := 0 }
theorem a_Model_lowest : y_Model_lowest.cls = R_Model ∧ y_Model_lowest.cls ≠ "java/lang/invoke/MethodHandle" ∧ y_Model_lowest.cls ≠ "java/lang/invoke/VarHandle" ∧ (parseMethodDescriptor y_Model_lowest.desc).map (fun d => d.parameters.length) = some 3 := by decide +kernel
theorem w_1382 : Cond.code y_Model_lowest b_Model_lowest 11 (some .long) ∈ TB := tb_in 1382 (by decide +kernel) (by decide +kernel)
theorem d_Model_lowest_0 : decode b_Model_lowest 0 = .ok (.lload_n 0, 1) := by decide +kernel
theorem d_Model_lowest_1 : decode b_Model_lowest 1 = .ok (.lconst 0, 1) := by decide +kernel
theorem d_Model_lowest_2 : decode b_Model_lowest 2 = .ok (.lcmp, 1) := by decide +kernel
theorem d_Model_lowest_3 : decode b_Model_lowest 3 = .ok (.ifCond .ne 7, 3) := by decide +kernel
theorem d_Model_lowest_6 : decode b_Model_lowest 6 = .ok (.iload 4, 2) := by decide +kernel
theorem d_Model_lowest_8 : decode b_Model_lowest 8 = .ok (.i2l, 1) := by decide +kernel
theorem d_Model_lowest_9 : decode b_Model_lowest 9 = .ok (.lreturn, 1) := by decide +kernel
theorem d_Model_lowest_10 : decode b_Model_lowest 10 = .ok (.lload_n 0, 1) := by decide +kernel
theorem d_Model_lowest_11 : decode b_Model_lowest 11 = .ok (.lstore 5, 2) := by decide +kernel
theorem d_Model_lowest_13 : decode b_Model_lowest 13 = .ok (.lload_n 2, 1) := by decide +kernel
theorem d_Model_lowest_14 : decode b_Model_lowest 14 = .ok (.lstore 7, 2) := by decide +kernel
theorem d_Model_lowest_16 : decode b_Model_lowest 16 = .ok (.lload 7, 2) := by decide +kernel
theorem d_Model_lowest_18 : decode b_Model_lowest 18 = .ok (.lconst 0, 1) := by decide +kernel
theorem d_Model_lowest_19 : decode b_Model_lowest 19 = .ok (.lcmp, 1) := by decide +kernel
theorem d_Model_lowest_20 : decode b_Model_lowest 20 = .ok (.ifCond .eq 21, 3) := by decide +kernel
theorem d_Model_lowest_23 : decode b_Model_lowest 23 = .ok (.lload 5, 2) := by decide +kernel
theorem d_Model_lowest_25 : decode b_Model_lowest 25 = .ok (.lload 7, 2) := by decide +kernel
theorem d_Model_lowest_27 : decode b_Model_lowest 27 = .ok (.lrem, 1) := by decide +kernel
theorem d_Model_lowest_28 : decode b_Model_lowest 28 = .ok (.lstore 9, 2) := by decide +kernel
theorem d_Model_lowest_30 : decode b_Model_lowest 30 = .ok (.lload 7, 2) := by decide +kernel
theorem d_Model_lowest_32 : decode b_Model_lowest 32 = .ok (.lstore 5, 2) := by decide +kernel
theorem d_Model_lowest_34 : decode b_Model_lowest 34 = .ok (.lload 9, 2) := by decide +kernel
theorem d_Model_lowest_36 : decode b_Model_lowest 36 = .ok (.lstore 7, 2) := by decide +kernel
theorem d_Model_lowest_38 : decode b_Model_lowest 38 = .ok (.goto (-22), 3) := by decide +kernel
theorem d_Model_lowest_41 : decode b_Model_lowest 41 = .ok (.iload 4, 2) := by decide +kernel
theorem d_Model_lowest_43 : decode b_Model_lowest 43 = .ok (.ifCond .ne 7, 3) := by decide +kernel
theorem d_Model_lowest_46 : decode b_Model_lowest 46 = .ok (.lload_n 0, 1) := by decide +kernel
theorem d_Model_lowest_47 : decode b_Model_lowest 47 = .ok (.goto 4, 3) := by decide +kernel
theorem d_Model_lowest_50 : decode b_Model_lowest 50 = .ok (.lload_n 2, 1) := by decide +kernel
theorem d_Model_lowest_51 : decode b_Model_lowest 51 = .ok (.lload 5, 2) := by decide +kernel
theorem d_Model_lowest_53 : decode b_Model_lowest 53 = .ok (.ldiv, 1) := by decide +kernel
theorem d_Model_lowest_54 : decode b_Model_lowest 54 = .ok (.lreturn, 1) := by decide +kernel
section S_Model_lowest
variable {p : Program} {l : Launch} {e : Env} {s : State} {m : MethodId} {args : Array Value} {below : List Frame} {meth : Method} {c : Code} {D : va_G} {cA : Nat → ClassId} {ad : Nat → Nat} {A : Nat → Prop} {r : Int64} {τ : St}
def F_Model_lowest_51 (v5 : Int64) (t0 : Int64) : Option Int64 := (if ¬ v5 = 0 then (some (t0 / v5)) else none)
set_option maxHeartbeats 4000000 in
set_option maxRecDepth 100000 in
theorem q_Model_lowest_51 (s0 : St) (K : Fx p s m args meth c b_Model_lowest 11 R_Model (some .long))  : ∀ (H : Heap) (locs : List Loc) (ls : Array Slot) (v5 : Int64) (t0 : Int64), Wh D cA ad shM A s s0 H locs → lv_has ls 11 [(5, .long v5)] → F_Model_lowest_51 v5 t0 = (some r) → W p l e rm_Model_lowest s m args below meth c H locs 0 0 (MQ below (QcL D cA ad shM A r s0) args s 0 0 A) (F0 m 51 ls [.long t0]) := by
  have hx := K.1.1; have hb := K.1.2.1
  intro H locs ls v5 t0 hw hl hF
  unfold F_Model_lowest_51 at hF
  refine lv_lload hx hb d_Model_lowest_51 (lv_at hl 0 rfl) ?_
  obtain ⟨g_4, hF⟩ := ifG hF
  refine lv_ldiv hx hb d_Model_lowest_53 g_4 ?_
  cases hF
  exact r_lret K hw d_Model_lowest_54
def F_Model_lowest_16 : Nat → Int64 → Int64 → Int32 → Int64 → Int64 → Option Int64
  | 0, _, _, _, _, _ => none
  | n + 1, v0, v2, v4, v5, v7 => (if (lg_cmp v7 (0 : Int64)) = 0 then (if ¬ v4 = 0 then (F_Model_lowest_51 v5 v2) else (F_Model_lowest_51 v5 v0)) else (if ¬ v7 = 0 then (F_Model_lowest_16 n v0 v2 v4 v7 (jremL v5 v7)) else none))
set_option maxHeartbeats 4000000 in
set_option maxRecDepth 100000 in
theorem q_Model_lowest_16 (s0 : St) (K : Fx p s m args meth c b_Model_lowest 11 R_Model (some .long))  : ∀ (n : Nat), ∀ (H : Heap) (locs : List Loc) (ls : Array Slot) (v0 : Int64) (v2 : Int64) (v4 : Int32) (v5 : Int64) (v7 : Int64), Wh D cA ad shM A s s0 H locs → lv_has ls 11 [(0, .long v0), (2, .long v2), (4, .int v4), (5, .long v5), (7, .long v7)] → F_Model_lowest_16 n v0 v2 v4 v5 v7 = (some r) → W p l e rm_Model_lowest s m args below meth c H locs 0 0 (MQ below (QcL D cA ad shM A r s0) args s 0 0 A) (F0 m 16 ls []) := by
  have hx := K.1.1; have hb := K.1.2.1
  intro n
  induction n with
  | zero =>
    intro H locs ls v0 v2 v4 v5 v7 hw hl hF
    exact absurd hF (by rw [F_Model_lowest_16]; exact nofun)
  | succ n ih =>
    intro H locs ls v0 v2 v4 v5 v7 hw hl hF
    rw [F_Model_lowest_16] at hF
    refine lv_lload hx hb d_Model_lowest_16 (lv_at hl 4 rfl) ?_
    refine lv_lconst (v := 0) hx hb d_Model_lowest_18 (by decide) ?_
    refine W.lcmp hx hb d_Model_lowest_19 ?_
    refine lv_if_eq (tgt := 41) hx hb d_Model_lowest_20 (by decide) (fun c_2 => ?_) (fun c_2 => ?_)
    · replace hF := ifT hF c_2
      refine lv_iload hx hb d_Model_lowest_41 (lv_at hl 2 rfl) ?_
      refine lv_if_ne (tgt := 50) hx hb d_Model_lowest_43 (by decide) (fun c_3 => ?_) (fun c_3 => ?_)
      · replace hF := ifT hF c_3
        refine lv_lload_n hx hb d_Model_lowest_50 rfl (lv_at hl 1 rfl) ?_
        exact q_Model_lowest_51 s0 K _ _ _ _ _  hw (lv_sub hl [3] rfl) hF
      · replace hF := ifN hF c_3
        refine lv_lload_n hx hb d_Model_lowest_46 rfl (lv_at hl 0 rfl) ?_
        refine lv_goto (tgt := 51) hx hb d_Model_lowest_47 (by decide) ?_
        exact q_Model_lowest_51 s0 K _ _ _ _ _  hw (lv_sub hl [3] rfl) hF
    · replace hF := ifF hF c_2
      refine lv_lload hx hb d_Model_lowest_23 (lv_at hl 3 rfl) ?_
      refine lv_lload hx hb d_Model_lowest_25 (lv_at hl 4 rfl) ?_
      obtain ⟨g_5, hF⟩ := ifG hF
      refine lv_lrem hx hb d_Model_lowest_27 g_5 ?_
      refine lv_lstore (lv' := [(9, .long (jremL v5 v7)), (0, .long v0), (2, .long v2), (4, .int v4), (5, .long v5), (7, .long v7)]) hx hb d_Model_lowest_28 hl (by decide) rfl (fun ls hl => ?_)
      refine lv_lload hx hb d_Model_lowest_30 (lv_at hl 5 rfl) ?_
      refine lv_lstore (lv' := [(5, .long v7), (9, .long (jremL v5 v7)), (0, .long v0), (2, .long v2), (4, .int v4), (7, .long v7)]) hx hb d_Model_lowest_32 hl (by decide) rfl (fun ls hl => ?_)
      refine lv_lload hx hb d_Model_lowest_34 (lv_at hl 1 rfl) ?_
      refine lv_lstore (lv' := [(7, .long (jremL v5 v7)), (5, .long v7), (9, .long (jremL v5 v7)), (0, .long v0), (2, .long v2), (4, .int v4)]) hx hb d_Model_lowest_36 hl (by decide) rfl (fun ls hl => ?_)
      refine lv_goto (tgt := 16) hx hb d_Model_lowest_38 (by decide) ?_
      exact ih _ _ _ _ _ _ _ _  hw (lv_sub hl [3, 4, 5, 1, 0] rfl) hF
def F_Model_lowest_0 (v0 : Int64) (v2 : Int64) (v4 : Int32) : Option Int64 := (if ¬ (lg_cmp v0 (0 : Int64)) = 0 then (F_Model_lowest_16 FU v0 v2 v4 v0 v2) else (some (v4.toInt64)))
set_option maxHeartbeats 4000000 in
set_option maxRecDepth 100000 in
theorem q_Model_lowest_0 (s0 : St) (K : Fx p s m args meth c b_Model_lowest 11 R_Model (some .long))  : ∀ (H : Heap) (locs : List Loc) (ls : Array Slot) (v0 : Int64) (v2 : Int64) (v4 : Int32), Wh D cA ad shM A s s0 H locs → lv_has ls 11 [(0, .long v0), (2, .long v2), (4, .int v4)] → F_Model_lowest_0 v0 v2 v4 = (some r) → W p l e rm_Model_lowest s m args below meth c H locs 0 0 (MQ below (QcL D cA ad shM A r s0) args s 0 0 A) (F0 m 0 ls []) := by
  have hx := K.1.1; have hb := K.1.2.1
  intro H locs ls v0 v2 v4 hw hl hF
  unfold F_Model_lowest_0 at hF
  refine lv_lload_n hx hb d_Model_lowest_0 rfl (lv_at hl 0 rfl) ?_
  refine lv_lconst (v := 0) hx hb d_Model_lowest_1 (by decide) ?_
  refine W.lcmp hx hb d_Model_lowest_2 ?_
  refine lv_if_ne (tgt := 10) hx hb d_Model_lowest_3 (by decide) (fun c_1 => ?_) (fun c_1 => ?_)
  · replace hF := ifT hF c_1
    refine lv_lload_n hx hb d_Model_lowest_10 rfl (lv_at hl 0 rfl) ?_
    refine lv_lstore (lv' := [(5, .long v0), (0, .long v0), (2, .long v2), (4, .int v4)]) hx hb d_Model_lowest_11 hl (by decide) rfl (fun ls hl => ?_)
    refine lv_lload_n hx hb d_Model_lowest_13 rfl (lv_at hl 2 rfl) ?_
    refine lv_lstore (lv' := [(7, .long v2), (5, .long v0), (0, .long v0), (2, .long v2), (4, .int v4)]) hx hb d_Model_lowest_14 hl (by decide) rfl (fun ls hl => ?_)
    exact q_Model_lowest_16 s0 K FU _ _ _ _ _ _ _ _  hw (lv_sub hl [2, 3, 4, 1, 0] rfl) hF
  · replace hF := ifN hF c_1
    refine lv_iload hx hb d_Model_lowest_6 (lv_at hl 2 rfl) ?_
    refine lv_i2l (v := v4.toInt64) hx hb d_Model_lowest_8 rfl ?_
    cases hF
    exact r_lret K hw d_Model_lowest_9
end S_Model_lowest
abbrev F_Model_lowest := F_Model_lowest_0
theorem c_Model_lowest {l : Launch} {D : va_G} {cA : Nat → ClassId} {ad : Nat → Nat} {s0 : St} {r : Int64} {v0 : Int64} {v2 : Int64} {v4 : Int32}  (hF : F_Model_lowest v0 v2 v4 = (some r)) : ML l D cA ad shM y_Model_lowest (wT y_Model_lowest b_Model_lowest 11 (some .long)) rm_Model_lowest [.long v0, .long v2, .int v4] s0 r s0 :=
  fun sz => m_start (Qc := fun A => QcL D cA ad shM A r s0) (by decide +kernel) w_1382 (Nat.le_of_ble_eq_true rfl) (fun p e s m below meth c ls K hl hw => q_Model_lowest_0 s0 K _ _ _ _ _ _  hw hl hF)

/-! Model.odds(IIII)J -/
abbrev b_Model_odds : ByteArray := prog_13_method_70_code
def y_Model_odds : MethodName := ⟨R_Model, "odds", "(IIII)J"⟩
abbrev rm_Model_odds : Room := { frames := 8, cells := 0, slots := 0, locals := 200 }
theorem a_Model_odds : y_Model_odds.cls = R_Model ∧ y_Model_odds.cls ≠ "java/lang/invoke/MethodHandle" ∧ y_Model_odds.cls ≠ "java/lang/invoke/VarHandle" ∧ (parseMethodDescriptor y_Model_odds.desc).map (fun d => d.parameters.length) = some 4 := by decide +kernel
theorem w_1379 : Cond.constantLong R_Model 285 (-4611686018427387904) ∈ TB := tb_in 1379 (by decide +kernel) (by decide +kernel)
theorem w_1380 : Cond.methodLink R_Model 287 y_Model_lowest ∈ TB := tb_in 1380 (by decide +kernel) (by decide +kernel)
theorem w_1381 : Cond.static y_Model_lowest ∈ TB := tb_in 1381 (by decide +kernel) (by decide +kernel)
theorem w_1378 : Cond.code y_Model_odds b_Model_odds 8 (some .long) ∈ TB := tb_in 1378 (by decide +kernel) (by decide +kernel)
theorem d_Model_odds_0 : decode b_Model_odds 0 = .ok (.iload_n 1, 1) := by decide +kernel
theorem d_Model_odds_1 : decode b_Model_odds 1 = .ok (.iconst 0, 1) := by decide +kernel
theorem d_Model_odds_2 : decode b_Model_odds 2 = .ok (.ldc_w 281, 3) := by decide +kernel
theorem d_Model_odds_5 : decode b_Model_odds 5 = .ok (.invokestatic 78, 3) := by decide +kernel
theorem d_Model_odds_8 : decode b_Model_odds 8 = .ok (.ifCond .eq 31, 3) := by decide +kernel
theorem d_Model_odds_11 : decode b_Model_odds 11 = .ok (.iload_n 2, 1) := by decide +kernel
theorem d_Model_odds_12 : decode b_Model_odds 12 = .ok (.iconst 1, 1) := by decide +kernel
theorem d_Model_odds_13 : decode b_Model_odds 13 = .ok (.bipush 30, 2) := by decide +kernel
theorem d_Model_odds_15 : decode b_Model_odds 15 = .ok (.invokestatic 78, 3) := by decide +kernel
theorem d_Model_odds_18 : decode b_Model_odds 18 = .ok (.ifCond .eq 21, 3) := by decide +kernel
theorem d_Model_odds_21 : decode b_Model_odds 21 = .ok (.aload_n 0, 1) := by decide +kernel
theorem d_Model_odds_22 : decode b_Model_odds 22 = .ok (.iload_n 3, 1) := by decide +kernel
theorem d_Model_odds_23 : decode b_Model_odds 23 = .ok (.invokevirtual 220, 3) := by decide +kernel
theorem d_Model_odds_26 : decode b_Model_odds 26 = .ok (.ifCond .eq 13, 3) := by decide +kernel
theorem d_Model_odds_29 : decode b_Model_odds 29 = .ok (.iload 4, 2) := by decide +kernel
theorem d_Model_odds_31 : decode b_Model_odds 31 = .ok (.iconst 0, 1) := by decide +kernel
theorem d_Model_odds_32 : decode b_Model_odds 32 = .ok (.iconst 1, 1) := by decide +kernel
theorem d_Model_odds_33 : decode b_Model_odds 33 = .ok (.invokestatic 78, 3) := by decide +kernel
theorem d_Model_odds_36 : decode b_Model_odds 36 = .ok (.ifCond .ne 7, 3) := by decide +kernel
theorem d_Model_odds_39 : decode b_Model_odds 39 = .ok (.ldc2_w 285, 3) := by decide +kernel
theorem d_Model_odds_42 : decode b_Model_odds 42 = .ok (.lreturn, 1) := by decide +kernel
theorem d_Model_odds_43 : decode b_Model_odds 43 = .ok (.lconst 0, 1) := by decide +kernel
theorem d_Model_odds_44 : decode b_Model_odds 44 = .ok (.lstore 5, 2) := by decide +kernel
theorem d_Model_odds_46 : decode b_Model_odds 46 = .ok (.iconst 0, 1) := by decide +kernel
theorem d_Model_odds_47 : decode b_Model_odds 47 = .ok (.istore 7, 2) := by decide +kernel
theorem d_Model_odds_49 : decode b_Model_odds 49 = .ok (.iload 7, 2) := by decide +kernel
theorem d_Model_odds_51 : decode b_Model_odds 51 = .ok (.iload_n 2, 1) := by decide +kernel
theorem d_Model_odds_52 : decode b_Model_odds 52 = .ok (.if_icmp .ge 42, 3) := by decide +kernel
theorem d_Model_odds_55 : decode b_Model_odds 55 = .ok (.lload 5, 2) := by decide +kernel
theorem d_Model_odds_57 : decode b_Model_odds 57 = .ok (.aload_n 0, 1) := by decide +kernel
theorem d_Model_odds_58 : decode b_Model_odds 58 = .ok (.iload_n 1, 1) := by decide +kernel
theorem d_Model_odds_59 : decode b_Model_odds 59 = .ok (.iload 7, 2) := by decide +kernel
theorem d_Model_odds_61 : decode b_Model_odds 61 = .ok (.iadd, 1) := by decide +kernel
theorem d_Model_odds_62 : decode b_Model_odds 62 = .ok (.iload_n 3, 1) := by decide +kernel
theorem d_Model_odds_63 : decode b_Model_odds 63 = .ok (.bipush 10, 2) := by decide +kernel
theorem d_Model_odds_65 : decode b_Model_odds 65 = .ok (.idiv, 1) := by decide +kernel
theorem d_Model_odds_66 : decode b_Model_odds 66 = .ok (.iload_n 3, 1) := by decide +kernel
theorem d_Model_odds_67 : decode b_Model_odds 67 = .ok (.bipush 10, 2) := by decide +kernel
theorem d_Model_odds_69 : decode b_Model_odds 69 = .ok (.irem, 1) := by decide +kernel
theorem d_Model_odds_70 : decode b_Model_odds 70 = .ok (.invokevirtual 282, 3) := by decide +kernel
theorem d_Model_odds_73 : decode b_Model_odds 73 = .ok (.iload_n 3, 1) := by decide +kernel
theorem d_Model_odds_74 : decode b_Model_odds 74 = .ok (.bipush 10, 2) := by decide +kernel
theorem d_Model_odds_76 : decode b_Model_odds 76 = .ok (.idiv, 1) := by decide +kernel
theorem d_Model_odds_77 : decode b_Model_odds 77 = .ok (.if_icmp .ne 7, 3) := by decide +kernel
theorem d_Model_odds_80 : decode b_Model_odds 80 = .ok (.lconst 1, 1) := by decide +kernel
theorem d_Model_odds_81 : decode b_Model_odds 81 = .ok (.goto 4, 3) := by decide +kernel
theorem d_Model_odds_84 : decode b_Model_odds 84 = .ok (.lconst 0, 1) := by decide +kernel
theorem d_Model_odds_85 : decode b_Model_odds 85 = .ok (.ladd, 1) := by decide +kernel
theorem d_Model_odds_86 : decode b_Model_odds 86 = .ok (.lstore 5, 2) := by decide +kernel
theorem d_Model_odds_88 : decode b_Model_odds 88 = .ok (.iinc 7 1, 3) := by decide +kernel
theorem d_Model_odds_91 : decode b_Model_odds 91 = .ok (.goto (-42), 3) := by decide +kernel
theorem d_Model_odds_94 : decode b_Model_odds 94 = .ok (.lload 5, 2) := by decide +kernel
theorem d_Model_odds_96 : decode b_Model_odds 96 = .ok (.iload_n 2, 1) := by decide +kernel
theorem d_Model_odds_97 : decode b_Model_odds 97 = .ok (.i2l, 1) := by decide +kernel
theorem d_Model_odds_98 : decode b_Model_odds 98 = .ok (.iload 4, 2) := by decide +kernel
theorem d_Model_odds_100 : decode b_Model_odds 100 = .ok (.invokestatic 287, 3) := by decide +kernel
theorem d_Model_odds_103 : decode b_Model_odds 103 = .ok (.lreturn, 1) := by decide +kernel
section S_Model_odds
variable {p : Program} {l : Launch} {e : Env} {s : State} {m : MethodId} {args : Array Value} {below : List Frame} {meth : Method} {c : Code} {D : va_G} {cA : Nat → ClassId} {ad : Nat → Nat} {A : Nat → Prop} {r : Int64} {τ : St}
def F_Model_odds_39 (s0 : St) : Option (Int64 × St) := (some ((-4611686018427387904 : Int64), s0))
set_option maxHeartbeats 4000000 in
set_option maxRecDepth 100000 in
theorem q_Model_odds_39 (K : Fx p s m args meth c b_Model_odds 8 R_Model (some .long))  : ∀ (H : Heap) (locs : List Loc) (ls : Array Slot) (s0 : St), Wh D cA ad shM A s s0 H locs → lv_has ls 8 [] → F_Model_odds_39 s0 = (some (r, τ)) → W p l e rm_Model_odds s m args below meth c H locs 0 0 (MQ below (QcL D cA ad shM A r τ) args s 0 0 A) (F0 m 39 ls []) := by
  have hx := K.1.1; have hb := K.1.2.1
  intro H locs ls s0 hw hl hF
  unfold F_Model_odds_39 at hF
  refine lv_ldc2 (v := -4611686018427387904) hx hb K.1.2.2.2.1 (K.1.2.2.2.2 _ w_1379) d_Model_odds_39 ?_
  cases hF
  exact r_lret K hw d_Model_odds_42
def F_Model_odds_85 (k25 : (St → Int32 → Int32 → Int32 → Int32 → Int64 → Int32 → Option (Int64 × St))) (s0 : St) (v1 : Int32) (v2 : Int32) (v3 : Int32) (v4 : Int32) (v7 : Int32) (t0 : Int64) (t1 : Int64) : Option (Int64 × St) := (k25 s0 v1 v2 v3 v4 (t0 + t1) (v7 + 1))
set_option maxHeartbeats 4000000 in
set_option maxRecDepth 100000 in
theorem q_Model_odds_85 (K : Fx p s m args meth c b_Model_odds 8 R_Model (some .long)) (k25 : (St → Int32 → Int32 → Int32 → Int32 → Int64 → Int32 → Option (Int64 × St))) (hk25 : ∀ (H : Heap) (locs : List Loc) (ls : Array Slot) (s0 : St) (v1 : Int32) (v2 : Int32) (v3 : Int32) (v4 : Int32) (v5 : Int64) (v7 : Int32), Wh D cA ad shM A s s0 H locs → lv_has ls 8 [(0, .ref (ad 0)), (1, .int v1), (2, .int v2), (3, .int v3), (4, .int v4), (5, .long v5), (7, .int v7)] → k25 s0 v1 v2 v3 v4 v5 v7 = (some (r, τ)) → W p l e rm_Model_odds s m args below meth c H locs 0 0 (MQ below (QcL D cA ad shM A r τ) args s 0 0 A) (F0 m 49 ls [])) : ∀ (H : Heap) (locs : List Loc) (ls : Array Slot) (s0 : St) (v1 : Int32) (v2 : Int32) (v3 : Int32) (v4 : Int32) (v7 : Int32) (t0 : Int64) (t1 : Int64), Wh D cA ad shM A s s0 H locs → lv_has ls 8 [(0, .ref (ad 0)), (1, .int v1), (2, .int v2), (3, .int v3), (4, .int v4), (7, .int v7)] → F_Model_odds_85 k25 s0 v1 v2 v3 v4 v7 t0 t1 = (some (r, τ)) → W p l e rm_Model_odds s m args below meth c H locs 0 0 (MQ below (QcL D cA ad shM A r τ) args s 0 0 A) (F0 m 85 ls [.long t1, .long t0]) := by
  have hx := K.1.1; have hb := K.1.2.1
  intro H locs ls s0 v1 v2 v3 v4 v7 t0 t1 hw hl hF
  unfold F_Model_odds_85 at hF
  refine lv_ladd hx hb d_Model_odds_85 ?_
  refine lv_lstore (lv' := [(5, .long (t0 + t1)), (0, .ref (ad 0)), (1, .int v1), (2, .int v2), (3, .int v3), (4, .int v4), (7, .int v7)]) hx hb d_Model_odds_86 hl (by decide) rfl (fun ls hl => ?_)
  refine lv_iinc (v := (v7 + 1)) (lv' := [(7, .int (v7 + 1)), (5, .long (t0 + t1)), (0, .ref (ad 0)), (1, .int v1), (2, .int v2), (3, .int v3), (4, .int v4)]) hx hb d_Model_odds_88 hl (k := 6) rfl rfl (by decide) rfl (fun ls hl => ?_)
  refine lv_goto (tgt := 49) hx hb d_Model_odds_91 (by decide) ?_
  exact hk25 _ _ _ _ _ _ _ _ _ _  hw (lv_sub hl [2, 3, 4, 5, 6, 1, 0] rfl) hF
def F_Model_odds_49 : Nat → St → Int32 → Int32 → Int32 → Int32 → Int64 → Int32 → Option (Int64 × St)
  | 0, _, _, _, _, _, _, _ => none
  | n + 1, s0, v1, v2, v3, v4, v5, v7 => (if v2 ≤ v7 then (ob1 (F_Model_lowest v5 (v2.toInt64) v4) (fun r_7 => (some (r_7, s0)))) else (ob2 (F_Model_winnerBy s0 (v1 + v7) (v3 / (10 : Int32)) (jrem v3 (10 : Int32))) (fun r_8 s_9 => (if ¬ r_8 = (v3 / (10 : Int32)) then (F_Model_odds_85 (fun z0 zv1 zv2 zv3 zv4 zv5 zv7 => F_Model_odds_49 n z0 zv1 zv2 zv3 zv4 zv5 zv7) s_9 v1 v2 v3 v4 v7 v5 (0 : Int64)) else (F_Model_odds_85 (fun z0 zv1 zv2 zv3 zv4 zv5 zv7 => F_Model_odds_49 n z0 zv1 zv2 zv3 zv4 zv5 zv7) s_9 v1 v2 v3 v4 v7 v5 (1 : Int64))))))
set_option maxHeartbeats 4000000 in
set_option maxRecDepth 100000 in
theorem q_Model_odds_49 (K : Fx p s m args meth c b_Model_odds 8 R_Model (some .long))  : ∀ (n : Nat), ∀ (H : Heap) (locs : List Loc) (ls : Array Slot) (s0 : St) (v1 : Int32) (v2 : Int32) (v3 : Int32) (v4 : Int32) (v5 : Int64) (v7 : Int32), Wh D cA ad shM A s s0 H locs → lv_has ls 8 [(0, .ref (ad 0)), (1, .int v1), (2, .int v2), (3, .int v3), (4, .int v4), (5, .long v5), (7, .int v7)] → F_Model_odds_49 n s0 v1 v2 v3 v4 v5 v7 = (some (r, τ)) → W p l e rm_Model_odds s m args below meth c H locs 0 0 (MQ below (QcL D cA ad shM A r τ) args s 0 0 A) (F0 m 49 ls []) := by
  have hx := K.1.1; have hb := K.1.2.1
  intro n
  induction n with
  | zero =>
    intro H locs ls s0 v1 v2 v3 v4 v5 v7 hw hl hF
    exact absurd hF (by rw [F_Model_odds_49]; exact nofun)
  | succ n ih =>
    intro H locs ls s0 v1 v2 v3 v4 v5 v7 hw hl hF
    rw [F_Model_odds_49] at hF
    refine lv_iload hx hb d_Model_odds_49 (lv_at hl 6 rfl) ?_
    refine lv_iload_n hx hb d_Model_odds_51 rfl (lv_at hl 2 rfl) ?_
    refine lv_icmp_ge (tgt := 94) hx hb d_Model_odds_52 (by decide) (fun c_6 => ?_) (fun c_6 => ?_)
    · replace hF := ifT hF c_6
      refine lv_lload hx hb d_Model_odds_94 (lv_at hl 5 rfl) ?_
      refine lv_iload_n hx hb d_Model_odds_96 rfl (lv_at hl 2 rfl) ?_
      refine lv_i2l (v := v2.toInt64) hx hb d_Model_odds_97 rfl ?_
      refine lv_iload hx hb d_Model_odds_98 (lv_at hl 4 rfl) ?_
      obtain ⟨r_7, h_r_7, hF⟩ := ob1E hF
      refine r_callSL (As := [.long v5, .long (v2.toInt64), .int v4]) (rest := []) K hw hl.1 (c_Model_lowest (l := l) (D := D) (cA := cA) (ad := ad) (s0 := s0)  h_r_7) (tb_gS w_1380 w_1381 w_80 w_1382) a_Model_lowest ⟨rfl, rfl, Nat.le_of_ble_eq_true rfl, Nat.le_of_ble_eq_true rfl⟩ rfl rfl (Nat.le_of_ble_eq_true rfl) d_Model_odds_100 (fun H locs hw => ?_)
      cases hF
      exact r_lret K hw d_Model_odds_103
    · replace hF := ifF hF c_6
      refine lv_lload hx hb d_Model_odds_55 (lv_at hl 5 rfl) ?_
      refine lv_aload_n hx hb d_Model_odds_57 rfl (lv_at hl 0 rfl) ?_
      refine lv_iload_n hx hb d_Model_odds_58 rfl (lv_at hl 1 rfl) ?_
      refine lv_iload hx hb d_Model_odds_59 (lv_at hl 6 rfl) ?_
      refine lv_iadd hx hb d_Model_odds_61 ?_
      refine lv_iload_n hx hb d_Model_odds_62 rfl (lv_at hl 3 rfl) ?_
      refine lv_bipush (v := 10) hx hb d_Model_odds_63 (by decide) ?_
      refine lv_idiv hx hb d_Model_odds_65 (by decide) ?_
      refine lv_iload_n hx hb d_Model_odds_66 rfl (lv_at hl 3 rfl) ?_
      refine lv_bipush (v := 10) hx hb d_Model_odds_67 (by decide) ?_
      refine lv_irem hx hb d_Model_odds_69 (by decide) ?_
      obtain ⟨r_8, s_9, h_s_9, hF⟩ := ob2E hF
      refine r_callVI (As := [.int (v1 + v7), .int (v3 / (10 : Int32)), .int (jrem v3 (10 : Int32))]) (rest := [.long v5]) K hw hl.1 (c_Model_winnerBy (l := l) (D := D) (cA := cA) (ad := ad) (s0 := s0)  h_s_9) sh_Model rfl (tb_gV w_1368 w_1370 w_61 w_80 w_1371) a_Model_winnerBy ⟨rfl, rfl, Nat.le_of_ble_eq_true rfl, Nat.le_of_ble_eq_true rfl⟩ rfl rfl (Nat.le_of_ble_eq_true rfl) d_Model_odds_70 (fun H locs hw => ?_)
      refine lv_iload_n hx hb d_Model_odds_73 rfl (lv_at hl 3 rfl) ?_
      refine lv_bipush (v := 10) hx hb d_Model_odds_74 (by decide) ?_
      refine lv_idiv hx hb d_Model_odds_76 (by decide) ?_
      refine lv_icmp_ne (tgt := 84) hx hb d_Model_odds_77 (by decide) (fun c_10 => ?_) (fun c_10 => ?_)
      · replace hF := ifT hF c_10
        refine lv_lconst (v := 0) hx hb d_Model_odds_84 (by decide) ?_
        exact q_Model_odds_85 K (fun z0 zv1 zv2 zv3 zv4 zv5 zv7 => F_Model_odds_49 n z0 zv1 zv2 zv3 zv4 zv5 zv7) ih _ _ _ _ _ _ _ _ _ _ _  hw (lv_sub hl [0, 1, 2, 3, 4, 6] rfl) hF
      · replace hF := ifN hF c_10
        refine lv_lconst (v := 1) hx hb d_Model_odds_80 (by decide) ?_
        refine lv_goto (tgt := 85) hx hb d_Model_odds_81 (by decide) ?_
        exact q_Model_odds_85 K (fun z0 zv1 zv2 zv3 zv4 zv5 zv7 => F_Model_odds_49 n z0 zv1 zv2 zv3 zv4 zv5 zv7) ih _ _ _ _ _ _ _ _ _ _ _  hw (lv_sub hl [0, 1, 2, 3, 4, 6] rfl) hF
def F_Model_odds_0 (s0 : St) (v1 : Int32) (v2 : Int32) (v3 : Int32) (v4 : Int32) : Option (Int64 × St) := (if (F_Model_in v1 (0 : Int32) (99999 : Int32)) = 0 then (F_Model_odds_39 s0) else (if (F_Model_in v2 (1 : Int32) (30 : Int32)) = 0 then (F_Model_odds_39 s0) else (ob1 (F_Model_tellTwo s0 v3) (fun r_3 => (if r_3 = 0 then (F_Model_odds_39 s0) else (if ¬ (F_Model_in v4 (0 : Int32) (1 : Int32)) = 0 then (F_Model_odds_49 FU s0 v1 v2 v3 v4 (0 : Int64) (0 : Int32)) else (F_Model_odds_39 s0)))))))
set_option maxHeartbeats 4000000 in
set_option maxRecDepth 100000 in
theorem q_Model_odds_0 (K : Fx p s m args meth c b_Model_odds 8 R_Model (some .long))  : ∀ (H : Heap) (locs : List Loc) (ls : Array Slot) (s0 : St) (v1 : Int32) (v2 : Int32) (v3 : Int32) (v4 : Int32), Wh D cA ad shM A s s0 H locs → lv_has ls 8 [(0, .ref (ad 0)), (1, .int v1), (2, .int v2), (3, .int v3), (4, .int v4)] → F_Model_odds_0 s0 v1 v2 v3 v4 = (some (r, τ)) → W p l e rm_Model_odds s m args below meth c H locs 0 0 (MQ below (QcL D cA ad shM A r τ) args s 0 0 A) (F0 m 0 ls []) := by
  have hx := K.1.1; have hb := K.1.2.1
  intro H locs ls s0 v1 v2 v3 v4 hw hl hF
  unfold F_Model_odds_0 at hF
  refine lv_iload_n hx hb d_Model_odds_0 rfl (lv_at hl 1 rfl) ?_
  refine lv_iconst (v := 0) hx hb d_Model_odds_1 (by decide) ?_
  refine lv_ldcw (v := 99999) hx hb K.1.2.2.2.1 (K.1.2.2.2.2 _ w_1367) d_Model_odds_2 ?_
  refine r_callSI (As := [.int v1, .int (0 : Int32), .int (99999 : Int32)]) (rest := []) K hw hl.1 (c_Model_in (l := l) (D := D) (cA := cA) (ad := ad) (s0 := s0)  rfl) (tb_gS w_986 w_987 w_80 w_988) a_Model_in ⟨rfl, rfl, Nat.le_of_ble_eq_true rfl, Nat.le_of_ble_eq_true rfl⟩ rfl rfl (Nat.le_of_ble_eq_true rfl) d_Model_odds_5 (fun H locs hw => ?_)
  refine lv_if_eq (tgt := 39) hx hb d_Model_odds_8 (by decide) (fun c_1 => ?_) (fun c_1 => ?_)
  · replace hF := ifT hF c_1
    exact q_Model_odds_39 K _ _ _ _  hw (lv_sub hl [] rfl) hF
  · replace hF := ifF hF c_1
    refine lv_iload_n hx hb d_Model_odds_11 rfl (lv_at hl 2 rfl) ?_
    refine lv_iconst (v := 1) hx hb d_Model_odds_12 (by decide) ?_
    refine lv_bipush (v := 30) hx hb d_Model_odds_13 (by decide) ?_
    refine r_callSI (As := [.int v2, .int (1 : Int32), .int (30 : Int32)]) (rest := []) K hw hl.1 (c_Model_in (l := l) (D := D) (cA := cA) (ad := ad) (s0 := s0)  rfl) (tb_gS w_986 w_987 w_80 w_988) a_Model_in ⟨rfl, rfl, Nat.le_of_ble_eq_true rfl, Nat.le_of_ble_eq_true rfl⟩ rfl rfl (Nat.le_of_ble_eq_true rfl) d_Model_odds_15 (fun H locs hw => ?_)
    refine lv_if_eq (tgt := 39) hx hb d_Model_odds_18 (by decide) (fun c_2 => ?_) (fun c_2 => ?_)
    · replace hF := ifT hF c_2
      exact q_Model_odds_39 K _ _ _ _  hw (lv_sub hl [] rfl) hF
    · replace hF := ifF hF c_2
      refine lv_aload_n hx hb d_Model_odds_21 rfl (lv_at hl 0 rfl) ?_
      refine lv_iload_n hx hb d_Model_odds_22 rfl (lv_at hl 3 rfl) ?_
      obtain ⟨r_3, h_r_3, hF⟩ := ob1E hF
      refine r_callVI (As := [.int v3]) (rest := []) K hw hl.1 (c_Model_tellTwo (l := l) (D := D) (cA := cA) (ad := ad) (s0 := s0)  h_r_3) sh_Model rfl (tb_gV w_1222 w_1224 w_43 w_80 w_1225) a_Model_tellTwo ⟨rfl, rfl, Nat.le_of_ble_eq_true rfl, Nat.le_of_ble_eq_true rfl⟩ rfl rfl (Nat.le_of_ble_eq_true rfl) d_Model_odds_23 (fun H locs hw => ?_)
      refine lv_if_eq (tgt := 39) hx hb d_Model_odds_26 (by decide) (fun c_4 => ?_) (fun c_4 => ?_)
      · replace hF := ifT hF c_4
        exact q_Model_odds_39 K _ _ _ _  hw (lv_sub hl [] rfl) hF
      · replace hF := ifF hF c_4
        refine lv_iload hx hb d_Model_odds_29 (lv_at hl 4 rfl) ?_
        refine lv_iconst (v := 0) hx hb d_Model_odds_31 (by decide) ?_
        refine lv_iconst (v := 1) hx hb d_Model_odds_32 (by decide) ?_
        refine r_callSI (As := [.int v4, .int (0 : Int32), .int (1 : Int32)]) (rest := []) K hw hl.1 (c_Model_in (l := l) (D := D) (cA := cA) (ad := ad) (s0 := s0)  rfl) (tb_gS w_986 w_987 w_80 w_988) a_Model_in ⟨rfl, rfl, Nat.le_of_ble_eq_true rfl, Nat.le_of_ble_eq_true rfl⟩ rfl rfl (Nat.le_of_ble_eq_true rfl) d_Model_odds_33 (fun H locs hw => ?_)
        refine lv_if_ne (tgt := 43) hx hb d_Model_odds_36 (by decide) (fun c_5 => ?_) (fun c_5 => ?_)
        · replace hF := ifT hF c_5
          refine lv_lconst (v := 0) hx hb d_Model_odds_43 (by decide) ?_
          refine lv_lstore (lv' := [(5, .long (0 : Int64)), (0, .ref (ad 0)), (1, .int v1), (2, .int v2), (3, .int v3), (4, .int v4)]) hx hb d_Model_odds_44 hl (by decide) rfl (fun ls hl => ?_)
          refine lv_iconst (v := 0) hx hb d_Model_odds_46 (by decide) ?_
          refine lv_istore (lv' := [(7, .int (0 : Int32)), (5, .long (0 : Int64)), (0, .ref (ad 0)), (1, .int v1), (2, .int v2), (3, .int v3), (4, .int v4)]) hx hb d_Model_odds_47 hl (by decide) rfl (fun ls hl => ?_)
          exact q_Model_odds_49 K FU _ _ _ _ _ _ _ _ _ _  hw (lv_sub hl [2, 3, 4, 5, 6, 1, 0] rfl) hF
        · replace hF := ifN hF c_5
          exact q_Model_odds_39 K _ _ _ _  hw (lv_sub hl [] rfl) hF
end S_Model_odds
abbrev F_Model_odds := F_Model_odds_0
theorem c_Model_odds {l : Launch} {D : va_G} {cA : Nat → ClassId} {ad : Nat → Nat} {s0 τ : St} {r : Int64} {v1 : Int32} {v2 : Int32} {v3 : Int32} {v4 : Int32}  (hF : F_Model_odds s0 v1 v2 v3 v4 = (some (r, τ))) : ML l D cA ad shM y_Model_odds (wT y_Model_odds b_Model_odds 8 (some .long)) rm_Model_odds [.ref (ad 0), .int v1, .int v2, .int v3, .int v4] s0 r τ :=
  fun sz => m_start (Qc := fun A => QcL D cA ad shM A r τ) (by decide +kernel) w_1378 (Nat.le_of_ble_eq_true rfl) (fun p e s m below meth c ls K hl hw => q_Model_odds_0 K _ _ _ _ _ _ _ _  hw hl hF)

/-! Model.image()I -/
abbrev b_Model_image : ByteArray := prog_13_method_71_code
def y_Model_image : MethodName := ⟨R_Model, "image", "()I"⟩
abbrev rm_Model_image : Room := { frames := 0, cells := 0, slots := 0, locals := 0 }
theorem a_Model_image : y_Model_image.cls = R_Model ∧ y_Model_image.cls ≠ "java/lang/invoke/MethodHandle" ∧ y_Model_image.cls ≠ "java/lang/invoke/VarHandle" ∧ (parseMethodDescriptor y_Model_image.desc).map (fun d => d.parameters.length) = some 0 := by decide +kernel
theorem w_1037 : Cond.fieldLink R_Model 291 R_Model "hasImage" "Z" ∈ TB := tb_in 1037 (by decide +kernel) (by decide +kernel)
theorem w_1038 : Cond.fieldLink R_Model 295 R_Model "imageArms" "I" ∈ TB := tb_in 1038 (by decide +kernel) (by decide +kernel)
theorem w_1039 : Cond.fieldLink R_Model 298 R_Model "imageRule" "I" ∈ TB := tb_in 1039 (by decide +kernel) (by decide +kernel)
theorem w_1040 : Cond.fieldLink R_Model 34 R_Model "imageHold" "[I" ∈ TB := tb_in 1040 (by decide +kernel) (by decide +kernel)
theorem w_1041 : Cond.fieldLink R_Model 37 R_Model "imagePlan" "[I" ∈ TB := tb_in 1041 (by decide +kernel) (by decide +kernel)
theorem w_1386 : Cond.code y_Model_image b_Model_image 2 (some .int) ∈ TB := tb_in 1386 (by decide +kernel) (by decide +kernel)
theorem d_Model_image_0 : decode b_Model_image 0 = .ok (.aload_n 0, 1) := by decide +kernel
theorem d_Model_image_1 : decode b_Model_image 1 = .ok (.iconst 1, 1) := by decide +kernel
theorem d_Model_image_2 : decode b_Model_image 2 = .ok (.putfield 291, 3) := by decide +kernel
theorem d_Model_image_5 : decode b_Model_image 5 = .ok (.aload_n 0, 1) := by decide +kernel
theorem d_Model_image_6 : decode b_Model_image 6 = .ok (.aload_n 0, 1) := by decide +kernel
theorem d_Model_image_7 : decode b_Model_image 7 = .ok (.getfield 75, 3) := by decide +kernel
theorem d_Model_image_10 : decode b_Model_image 10 = .ok (.putfield 295, 3) := by decide +kernel
theorem d_Model_image_13 : decode b_Model_image 13 = .ok (.aload_n 0, 1) := by decide +kernel
theorem d_Model_image_14 : decode b_Model_image 14 = .ok (.aload_n 0, 1) := by decide +kernel
theorem d_Model_image_15 : decode b_Model_image 15 = .ok (.getfield 93, 3) := by decide +kernel
theorem d_Model_image_18 : decode b_Model_image 18 = .ok (.putfield 298, 3) := by decide +kernel
theorem d_Model_image_21 : decode b_Model_image 21 = .ok (.iconst 0, 1) := by decide +kernel
theorem d_Model_image_22 : decode b_Model_image 22 = .ok (.istore_n 1, 1) := by decide +kernel
theorem d_Model_image_23 : decode b_Model_image 23 = .ok (.iload_n 1, 1) := by decide +kernel
theorem d_Model_image_24 : decode b_Model_image 24 = .ok (.bipush 6, 2) := by decide +kernel
theorem d_Model_image_26 : decode b_Model_image 26 = .ok (.if_icmp .ge 33, 3) := by decide +kernel
theorem d_Model_image_29 : decode b_Model_image 29 = .ok (.aload_n 0, 1) := by decide +kernel
theorem d_Model_image_30 : decode b_Model_image 30 = .ok (.getfield 34, 3) := by decide +kernel
theorem d_Model_image_33 : decode b_Model_image 33 = .ok (.iload_n 1, 1) := by decide +kernel
theorem d_Model_image_34 : decode b_Model_image 34 = .ok (.aload_n 0, 1) := by decide +kernel
theorem d_Model_image_35 : decode b_Model_image 35 = .ok (.getfield 19, 3) := by decide +kernel
theorem d_Model_image_38 : decode b_Model_image 38 = .ok (.iload_n 1, 1) := by decide +kernel
theorem d_Model_image_39 : decode b_Model_image 39 = .ok (.iaload, 1) := by decide +kernel
theorem d_Model_image_40 : decode b_Model_image 40 = .ok (.iastore, 1) := by decide +kernel
theorem d_Model_image_41 : decode b_Model_image 41 = .ok (.aload_n 0, 1) := by decide +kernel
theorem d_Model_image_42 : decode b_Model_image 42 = .ok (.getfield 37, 3) := by decide +kernel
theorem d_Model_image_45 : decode b_Model_image 45 = .ok (.iload_n 1, 1) := by decide +kernel
theorem d_Model_image_46 : decode b_Model_image 46 = .ok (.aload_n 0, 1) := by decide +kernel
theorem d_Model_image_47 : decode b_Model_image 47 = .ok (.getfield 22, 3) := by decide +kernel
theorem d_Model_image_50 : decode b_Model_image 50 = .ok (.iload_n 1, 1) := by decide +kernel
theorem d_Model_image_51 : decode b_Model_image 51 = .ok (.iaload, 1) := by decide +kernel
theorem d_Model_image_52 : decode b_Model_image 52 = .ok (.iastore, 1) := by decide +kernel
theorem d_Model_image_53 : decode b_Model_image 53 = .ok (.iinc 1 1, 3) := by decide +kernel
theorem d_Model_image_56 : decode b_Model_image 56 = .ok (.goto (-33), 3) := by decide +kernel
theorem d_Model_image_59 : decode b_Model_image 59 = .ok (.aload_n 0, 1) := by decide +kernel
theorem d_Model_image_60 : decode b_Model_image 60 = .ok (.getfield 75, 3) := by decide +kernel
theorem d_Model_image_63 : decode b_Model_image 63 = .ok (.ireturn, 1) := by decide +kernel
section S_Model_image
variable {p : Program} {l : Launch} {e : Env} {s : State} {m : MethodId} {args : Array Value} {below : List Frame} {meth : Method} {c : Code} {D : va_G} {cA : Nat → ClassId} {ad : Nat → Nat} {A : Nat → Prop} {r : Int32} {τ : St}
def F_Model_image_23 : Nat → St → Int32 → Option (Int32 × St)
  | 0, _, _ => none
  | n + 1, s0, v1 => (if (6 : Int32) ≤ v1 then (some ((s0.1 0 0), s0)) else (if inB v1 6 = true then (if inB v1 6 = true then (lt (up1 s0 9 v1.toNatClampNeg (s0.1 4 v1.toNatClampNeg)) (fun s_7 => (if inB v1 6 = true then (if inB v1 6 = true then (lt (up1 s_7 10 v1.toNatClampNeg (s_7.1 5 v1.toNatClampNeg)) (fun s_10 => (F_Model_image_23 n s_10 (v1 + 1)))) else none) else none))) else none) else none))
set_option maxHeartbeats 4000000 in
set_option maxRecDepth 100000 in
theorem q_Model_image_23 (K : Fx p s m args meth c b_Model_image 2 R_Model (some .int))  : ∀ (n : Nat), ∀ (H : Heap) (locs : List Loc) (ls : Array Slot) (s0 : St) (v1 : Int32), Wh D cA ad shM A s s0 H locs → lv_has ls 2 [(0, .ref (ad 0)), (1, .int v1)] → F_Model_image_23 n s0 v1 = (some (r, τ)) → W p l e rm_Model_image s m args below meth c H locs 0 0 (MQ below (QcI D cA ad shM A r τ) args s 0 0 A) (F0 m 23 ls []) := by
  have hx := K.1.1; have hb := K.1.2.1
  intro n
  induction n with
  | zero =>
    intro H locs ls s0 v1 hw hl hF
    exact absurd hF (by rw [F_Model_image_23]; exact nofun)
  | succ n ih =>
    intro H locs ls s0 v1 hw hl hF
    rw [F_Model_image_23] at hF
    refine lv_iload_n hx hb d_Model_image_23 rfl (lv_at hl 1 rfl) ?_
    refine lv_bipush (v := 6) hx hb d_Model_image_24 (by decide) ?_
    refine lv_icmp_ge (tgt := 59) hx hb d_Model_image_26 (by decide) (fun c_4 => ?_) (fun c_4 => ?_)
    · replace hF := ifT hF c_4
      refine lv_aload_n hx hb d_Model_image_59 rfl (lv_at hl 0 rfl) ?_
      refine r_get (v := .int (s0.1 0 0)) K hw i_Model sh_Model rfl 0 (by decide) w_1025 rfl rfl rfl d_Model_image_60 ?_
      cases hF
      exact r_iret K hw d_Model_image_63
    · replace hF := ifF hF c_4
      refine lv_aload_n hx hb d_Model_image_29 rfl (lv_at hl 0 rfl) ?_
      refine r_get (v := .ref (ad 9)) K hw i_Model sh_Model rfl 15 (by decide) w_1040 rfl rfl rfl d_Model_image_30 ?_
      refine lv_iload_n hx hb d_Model_image_33 rfl (lv_at hl 1 rfl) ?_
      refine lv_aload_n hx hb d_Model_image_34 rfl (lv_at hl 0 rfl) ?_
      refine r_get (v := .ref (ad 4)) K hw i_Model sh_Model rfl 4 (by decide) w_1029 rfl rfl rfl d_Model_image_35 ?_
      refine lv_iload_n hx hb d_Model_image_38 rfl (lv_at hl 1 rfl) ?_
      obtain ⟨g_5, hF⟩ := ifG hF
      refine r_iald (k := v1.toNatClampNeg) K hw (show shM[4]? = some (.inr (.inl 6)) from rfl) rfl (inB_vp g_5) d_Model_image_39 ?_
      obtain ⟨g_6, hF⟩ := ifG hF
      refine r_iast (k := v1.toNatClampNeg) K hw (show shM[9]? = some (.inr (.inl 6)) from rfl) rfl (inB_vp g_6) d_Model_image_40 (fun s_7 f_s_7 H locs hw => ?_)
      replace hF := ltN hF f_s_7
      refine lv_aload_n hx hb d_Model_image_41 rfl (lv_at hl 0 rfl) ?_
      refine r_get (v := .ref (ad 10)) K hw i_Model sh_Model rfl 16 (by decide) w_1041 rfl rfl rfl d_Model_image_42 ?_
      refine lv_iload_n hx hb d_Model_image_45 rfl (lv_at hl 1 rfl) ?_
      refine lv_aload_n hx hb d_Model_image_46 rfl (lv_at hl 0 rfl) ?_
      refine r_get (v := .ref (ad 5)) K hw i_Model sh_Model rfl 5 (by decide) w_1030 rfl rfl rfl d_Model_image_47 ?_
      refine lv_iload_n hx hb d_Model_image_50 rfl (lv_at hl 1 rfl) ?_
      obtain ⟨g_8, hF⟩ := ifG hF
      refine r_iald (k := v1.toNatClampNeg) K hw (show shM[5]? = some (.inr (.inl 6)) from rfl) rfl (inB_vp g_8) d_Model_image_51 ?_
      obtain ⟨g_9, hF⟩ := ifG hF
      refine r_iast (k := v1.toNatClampNeg) K hw (show shM[10]? = some (.inr (.inl 6)) from rfl) rfl (inB_vp g_9) d_Model_image_52 (fun s_10 f_s_10 H locs hw => ?_)
      replace hF := ltN hF f_s_10
      refine lv_iinc (v := (v1 + 1)) (lv' := [(1, .int (v1 + 1)), (0, .ref (ad 0))]) hx hb d_Model_image_53 hl (k := 1) rfl rfl (by decide) rfl (fun ls hl => ?_)
      refine lv_goto (tgt := 23) hx hb d_Model_image_56 (by decide) ?_
      exact ih _ _ _ _ _  hw (lv_sub hl [1, 0] rfl) hF
def F_Model_image_0 (s0 : St) : Option (Int32 × St) := (lt (up1 s0 0 12 (1 : Int32)) (fun s_1 => (lt (up1 s_1 0 13 (s_1.1 0 0)) (fun s_2 => (lt (up1 s_2 0 14 (s_2.1 0 11)) (fun s_3 => (F_Model_image_23 FU s_3 (0 : Int32))))))))
set_option maxHeartbeats 4000000 in
set_option maxRecDepth 100000 in
theorem q_Model_image_0 (K : Fx p s m args meth c b_Model_image 2 R_Model (some .int))  : ∀ (H : Heap) (locs : List Loc) (ls : Array Slot) (s0 : St), Wh D cA ad shM A s s0 H locs → lv_has ls 2 [(0, .ref (ad 0))] → F_Model_image_0 s0 = (some (r, τ)) → W p l e rm_Model_image s m args below meth c H locs 0 0 (MQ below (QcI D cA ad shM A r τ) args s 0 0 A) (F0 m 0 ls []) := by
  have hx := K.1.1; have hb := K.1.2.1
  intro H locs ls s0 hw hl hF
  unfold F_Model_image_0 at hF
  refine lv_aload_n hx hb d_Model_image_0 rfl (lv_at hl 0 rfl) ?_
  refine lv_iconst (v := 1) hx hb d_Model_image_1 (by decide) ?_
  refine r_putI K hw i_Model t_Model t_Model_ok n_Model sh_Model rfl 12 (by decide) w_1037 rfl rfl rfl rfl rfl d_Model_image_2 (fun s_1 f_s_1 H locs hw => ?_)
  replace hF := ltN hF f_s_1
  refine lv_aload_n hx hb d_Model_image_5 rfl (lv_at hl 0 rfl) ?_
  refine lv_aload_n hx hb d_Model_image_6 rfl (lv_at hl 0 rfl) ?_
  refine r_get (v := .int (s_1.1 0 0)) K hw i_Model sh_Model rfl 0 (by decide) w_1025 rfl rfl rfl d_Model_image_7 ?_
  refine r_putI K hw i_Model t_Model t_Model_ok n_Model sh_Model rfl 13 (by decide) w_1038 rfl rfl rfl rfl rfl d_Model_image_10 (fun s_2 f_s_2 H locs hw => ?_)
  replace hF := ltN hF f_s_2
  refine lv_aload_n hx hb d_Model_image_13 rfl (lv_at hl 0 rfl) ?_
  refine lv_aload_n hx hb d_Model_image_14 rfl (lv_at hl 0 rfl) ?_
  refine r_get (v := .int (s_2.1 0 11)) K hw i_Model sh_Model rfl 11 (by decide) w_1036 rfl rfl rfl d_Model_image_15 ?_
  refine r_putI K hw i_Model t_Model t_Model_ok n_Model sh_Model rfl 14 (by decide) w_1039 rfl rfl rfl rfl rfl d_Model_image_18 (fun s_3 f_s_3 H locs hw => ?_)
  replace hF := ltN hF f_s_3
  refine lv_iconst (v := 0) hx hb d_Model_image_21 (by decide) ?_
  refine lv_istore_n (lv' := [(1, .int (0 : Int32)), (0, .ref (ad 0))]) hx hb d_Model_image_22 rfl hl (by decide) rfl (fun ls hl => ?_)
  exact q_Model_image_23 K FU _ _ _ _ _  hw (lv_sub hl [1, 0] rfl) hF
end S_Model_image
abbrev F_Model_image := F_Model_image_0
theorem c_Model_image {l : Launch} {D : va_G} {cA : Nat → ClassId} {ad : Nat → Nat} {s0 τ : St} {r : Int32}   (hF : F_Model_image s0 = (some (r, τ))) : MI l D cA ad shM y_Model_image (wT y_Model_image b_Model_image 2 (some .int)) rm_Model_image [.ref (ad 0)] s0 r τ :=
  fun sz => m_start (Qc := fun A => QcI D cA ad shM A r τ) (by decide +kernel) w_1386 (Nat.le_of_ble_eq_true rfl) (fun p e s m below meth c ls K hl hw => q_Model_image_0 K _ _ _ _   hw hl hF)

/-! Model.back()I -/
abbrev b_Model_back : ByteArray := prog_13_method_72_code
def y_Model_back : MethodName := ⟨R_Model, "back", "()I"⟩
abbrev rm_Model_back : Room := { frames := 0, cells := 0, slots := 0, locals := 0 }
theorem a_Model_back : y_Model_back.cls = R_Model ∧ y_Model_back.cls ≠ "java/lang/invoke/MethodHandle" ∧ y_Model_back.cls ≠ "java/lang/invoke/VarHandle" ∧ (parseMethodDescriptor y_Model_back.desc).map (fun d => d.parameters.length) = some 0 := by decide +kernel
theorem w_1390 : Cond.code y_Model_back b_Model_back 2 (some .int) ∈ TB := tb_in 1390 (by decide +kernel) (by decide +kernel)
theorem d_Model_back_0 : decode b_Model_back 0 = .ok (.aload_n 0, 1) := by decide +kernel
theorem d_Model_back_1 : decode b_Model_back 1 = .ok (.getfield 291, 3) := by decide +kernel
theorem d_Model_back_4 : decode b_Model_back 4 = .ok (.ifCond .ne 6, 3) := by decide +kernel
theorem d_Model_back_7 : decode b_Model_back 7 = .ok (.bipush (-3), 2) := by decide +kernel
theorem d_Model_back_9 : decode b_Model_back 9 = .ok (.ireturn, 1) := by decide +kernel
theorem d_Model_back_10 : decode b_Model_back 10 = .ok (.aload_n 0, 1) := by decide +kernel
theorem d_Model_back_11 : decode b_Model_back 11 = .ok (.aload_n 0, 1) := by decide +kernel
theorem d_Model_back_12 : decode b_Model_back 12 = .ok (.getfield 295, 3) := by decide +kernel
theorem d_Model_back_15 : decode b_Model_back 15 = .ok (.putfield 75, 3) := by decide +kernel
theorem d_Model_back_18 : decode b_Model_back 18 = .ok (.aload_n 0, 1) := by decide +kernel
theorem d_Model_back_19 : decode b_Model_back 19 = .ok (.aload_n 0, 1) := by decide +kernel
theorem d_Model_back_20 : decode b_Model_back 20 = .ok (.getfield 298, 3) := by decide +kernel
theorem d_Model_back_23 : decode b_Model_back 23 = .ok (.putfield 93, 3) := by decide +kernel
theorem d_Model_back_26 : decode b_Model_back 26 = .ok (.iconst 0, 1) := by decide +kernel
theorem d_Model_back_27 : decode b_Model_back 27 = .ok (.istore_n 1, 1) := by decide +kernel
theorem d_Model_back_28 : decode b_Model_back 28 = .ok (.iload_n 1, 1) := by decide +kernel
theorem d_Model_back_29 : decode b_Model_back 29 = .ok (.bipush 6, 2) := by decide +kernel
theorem d_Model_back_31 : decode b_Model_back 31 = .ok (.if_icmp .ge 33, 3) := by decide +kernel
theorem d_Model_back_34 : decode b_Model_back 34 = .ok (.aload_n 0, 1) := by decide +kernel
theorem d_Model_back_35 : decode b_Model_back 35 = .ok (.getfield 19, 3) := by decide +kernel
theorem d_Model_back_38 : decode b_Model_back 38 = .ok (.iload_n 1, 1) := by decide +kernel
theorem d_Model_back_39 : decode b_Model_back 39 = .ok (.aload_n 0, 1) := by decide +kernel
theorem d_Model_back_40 : decode b_Model_back 40 = .ok (.getfield 34, 3) := by decide +kernel
theorem d_Model_back_43 : decode b_Model_back 43 = .ok (.iload_n 1, 1) := by decide +kernel
theorem d_Model_back_44 : decode b_Model_back 44 = .ok (.iaload, 1) := by decide +kernel
theorem d_Model_back_45 : decode b_Model_back 45 = .ok (.iastore, 1) := by decide +kernel
theorem d_Model_back_46 : decode b_Model_back 46 = .ok (.aload_n 0, 1) := by decide +kernel
theorem d_Model_back_47 : decode b_Model_back 47 = .ok (.getfield 22, 3) := by decide +kernel
theorem d_Model_back_50 : decode b_Model_back 50 = .ok (.iload_n 1, 1) := by decide +kernel
theorem d_Model_back_51 : decode b_Model_back 51 = .ok (.aload_n 0, 1) := by decide +kernel
theorem d_Model_back_52 : decode b_Model_back 52 = .ok (.getfield 37, 3) := by decide +kernel
theorem d_Model_back_55 : decode b_Model_back 55 = .ok (.iload_n 1, 1) := by decide +kernel
theorem d_Model_back_56 : decode b_Model_back 56 = .ok (.iaload, 1) := by decide +kernel
theorem d_Model_back_57 : decode b_Model_back 57 = .ok (.iastore, 1) := by decide +kernel
theorem d_Model_back_58 : decode b_Model_back 58 = .ok (.iinc 1 1, 3) := by decide +kernel
theorem d_Model_back_61 : decode b_Model_back 61 = .ok (.goto (-33), 3) := by decide +kernel
theorem d_Model_back_64 : decode b_Model_back 64 = .ok (.aload_n 0, 1) := by decide +kernel
theorem d_Model_back_65 : decode b_Model_back 65 = .ok (.getfield 75, 3) := by decide +kernel
theorem d_Model_back_68 : decode b_Model_back 68 = .ok (.ireturn, 1) := by decide +kernel
section S_Model_back
variable {p : Program} {l : Launch} {e : Env} {s : State} {m : MethodId} {args : Array Value} {below : List Frame} {meth : Method} {c : Code} {D : va_G} {cA : Nat → ClassId} {ad : Nat → Nat} {A : Nat → Prop} {r : Int32} {τ : St}
def F_Model_back_28 : Nat → St → Int32 → Option (Int32 × St)
  | 0, _, _ => none
  | n + 1, s0, v1 => (if (6 : Int32) ≤ v1 then (some ((s0.1 0 0), s0)) else (if inB v1 6 = true then (if inB v1 6 = true then (lt (up1 s0 4 v1.toNatClampNeg (s0.1 9 v1.toNatClampNeg)) (fun s_7 => (if inB v1 6 = true then (if inB v1 6 = true then (lt (up1 s_7 5 v1.toNatClampNeg (s_7.1 10 v1.toNatClampNeg)) (fun s_10 => (F_Model_back_28 n s_10 (v1 + 1)))) else none) else none))) else none) else none))
set_option maxHeartbeats 4000000 in
set_option maxRecDepth 100000 in
theorem q_Model_back_28 (K : Fx p s m args meth c b_Model_back 2 R_Model (some .int))  : ∀ (n : Nat), ∀ (H : Heap) (locs : List Loc) (ls : Array Slot) (s0 : St) (v1 : Int32), Wh D cA ad shM A s s0 H locs → lv_has ls 2 [(0, .ref (ad 0)), (1, .int v1)] → F_Model_back_28 n s0 v1 = (some (r, τ)) → W p l e rm_Model_back s m args below meth c H locs 0 0 (MQ below (QcI D cA ad shM A r τ) args s 0 0 A) (F0 m 28 ls []) := by
  have hx := K.1.1; have hb := K.1.2.1
  intro n
  induction n with
  | zero =>
    intro H locs ls s0 v1 hw hl hF
    exact absurd hF (by rw [F_Model_back_28]; exact nofun)
  | succ n ih =>
    intro H locs ls s0 v1 hw hl hF
    rw [F_Model_back_28] at hF
    refine lv_iload_n hx hb d_Model_back_28 rfl (lv_at hl 1 rfl) ?_
    refine lv_bipush (v := 6) hx hb d_Model_back_29 (by decide) ?_
    refine lv_icmp_ge (tgt := 64) hx hb d_Model_back_31 (by decide) (fun c_4 => ?_) (fun c_4 => ?_)
    · replace hF := ifT hF c_4
      refine lv_aload_n hx hb d_Model_back_64 rfl (lv_at hl 0 rfl) ?_
      refine r_get (v := .int (s0.1 0 0)) K hw i_Model sh_Model rfl 0 (by decide) w_1025 rfl rfl rfl d_Model_back_65 ?_
      cases hF
      exact r_iret K hw d_Model_back_68
    · replace hF := ifF hF c_4
      refine lv_aload_n hx hb d_Model_back_34 rfl (lv_at hl 0 rfl) ?_
      refine r_get (v := .ref (ad 4)) K hw i_Model sh_Model rfl 4 (by decide) w_1029 rfl rfl rfl d_Model_back_35 ?_
      refine lv_iload_n hx hb d_Model_back_38 rfl (lv_at hl 1 rfl) ?_
      refine lv_aload_n hx hb d_Model_back_39 rfl (lv_at hl 0 rfl) ?_
      refine r_get (v := .ref (ad 9)) K hw i_Model sh_Model rfl 15 (by decide) w_1040 rfl rfl rfl d_Model_back_40 ?_
      refine lv_iload_n hx hb d_Model_back_43 rfl (lv_at hl 1 rfl) ?_
      obtain ⟨g_5, hF⟩ := ifG hF
      refine r_iald (k := v1.toNatClampNeg) K hw (show shM[9]? = some (.inr (.inl 6)) from rfl) rfl (inB_vp g_5) d_Model_back_44 ?_
      obtain ⟨g_6, hF⟩ := ifG hF
      refine r_iast (k := v1.toNatClampNeg) K hw (show shM[4]? = some (.inr (.inl 6)) from rfl) rfl (inB_vp g_6) d_Model_back_45 (fun s_7 f_s_7 H locs hw => ?_)
      replace hF := ltN hF f_s_7
      refine lv_aload_n hx hb d_Model_back_46 rfl (lv_at hl 0 rfl) ?_
      refine r_get (v := .ref (ad 5)) K hw i_Model sh_Model rfl 5 (by decide) w_1030 rfl rfl rfl d_Model_back_47 ?_
      refine lv_iload_n hx hb d_Model_back_50 rfl (lv_at hl 1 rfl) ?_
      refine lv_aload_n hx hb d_Model_back_51 rfl (lv_at hl 0 rfl) ?_
      refine r_get (v := .ref (ad 10)) K hw i_Model sh_Model rfl 16 (by decide) w_1041 rfl rfl rfl d_Model_back_52 ?_
      refine lv_iload_n hx hb d_Model_back_55 rfl (lv_at hl 1 rfl) ?_
      obtain ⟨g_8, hF⟩ := ifG hF
      refine r_iald (k := v1.toNatClampNeg) K hw (show shM[10]? = some (.inr (.inl 6)) from rfl) rfl (inB_vp g_8) d_Model_back_56 ?_
      obtain ⟨g_9, hF⟩ := ifG hF
      refine r_iast (k := v1.toNatClampNeg) K hw (show shM[5]? = some (.inr (.inl 6)) from rfl) rfl (inB_vp g_9) d_Model_back_57 (fun s_10 f_s_10 H locs hw => ?_)
      replace hF := ltN hF f_s_10
      refine lv_iinc (v := (v1 + 1)) (lv' := [(1, .int (v1 + 1)), (0, .ref (ad 0))]) hx hb d_Model_back_58 hl (k := 1) rfl rfl (by decide) rfl (fun ls hl => ?_)
      refine lv_goto (tgt := 28) hx hb d_Model_back_61 (by decide) ?_
      exact ih _ _ _ _ _  hw (lv_sub hl [1, 0] rfl) hF
def F_Model_back_0 (s0 : St) : Option (Int32 × St) := (if ¬ (s0.1 0 12) = 0 then (lt (up1 s0 0 0 (s0.1 0 13)) (fun s_2 => (lt (up1 s_2 0 11 (s_2.1 0 14)) (fun s_3 => (F_Model_back_28 FU s_3 (0 : Int32)))))) else (some ((-3 : Int32), s0)))
set_option maxHeartbeats 4000000 in
set_option maxRecDepth 100000 in
theorem q_Model_back_0 (K : Fx p s m args meth c b_Model_back 2 R_Model (some .int))  : ∀ (H : Heap) (locs : List Loc) (ls : Array Slot) (s0 : St), Wh D cA ad shM A s s0 H locs → lv_has ls 2 [(0, .ref (ad 0))] → F_Model_back_0 s0 = (some (r, τ)) → W p l e rm_Model_back s m args below meth c H locs 0 0 (MQ below (QcI D cA ad shM A r τ) args s 0 0 A) (F0 m 0 ls []) := by
  have hx := K.1.1; have hb := K.1.2.1
  intro H locs ls s0 hw hl hF
  unfold F_Model_back_0 at hF
  refine lv_aload_n hx hb d_Model_back_0 rfl (lv_at hl 0 rfl) ?_
  refine r_get (v := .int (s0.1 0 12)) K hw i_Model sh_Model rfl 12 (by decide) w_1037 rfl rfl rfl d_Model_back_1 ?_
  refine lv_if_ne (tgt := 10) hx hb d_Model_back_4 (by decide) (fun c_1 => ?_) (fun c_1 => ?_)
  · replace hF := ifT hF c_1
    refine lv_aload_n hx hb d_Model_back_10 rfl (lv_at hl 0 rfl) ?_
    refine lv_aload_n hx hb d_Model_back_11 rfl (lv_at hl 0 rfl) ?_
    refine r_get (v := .int (s0.1 0 13)) K hw i_Model sh_Model rfl 13 (by decide) w_1038 rfl rfl rfl d_Model_back_12 ?_
    refine r_putI K hw i_Model t_Model t_Model_ok n_Model sh_Model rfl 0 (by decide) w_1025 rfl rfl rfl rfl rfl d_Model_back_15 (fun s_2 f_s_2 H locs hw => ?_)
    replace hF := ltN hF f_s_2
    refine lv_aload_n hx hb d_Model_back_18 rfl (lv_at hl 0 rfl) ?_
    refine lv_aload_n hx hb d_Model_back_19 rfl (lv_at hl 0 rfl) ?_
    refine r_get (v := .int (s_2.1 0 14)) K hw i_Model sh_Model rfl 14 (by decide) w_1039 rfl rfl rfl d_Model_back_20 ?_
    refine r_putI K hw i_Model t_Model t_Model_ok n_Model sh_Model rfl 11 (by decide) w_1036 rfl rfl rfl rfl rfl d_Model_back_23 (fun s_3 f_s_3 H locs hw => ?_)
    replace hF := ltN hF f_s_3
    refine lv_iconst (v := 0) hx hb d_Model_back_26 (by decide) ?_
    refine lv_istore_n (lv' := [(1, .int (0 : Int32)), (0, .ref (ad 0))]) hx hb d_Model_back_27 rfl hl (by decide) rfl (fun ls hl => ?_)
    exact q_Model_back_28 K FU _ _ _ _ _  hw (lv_sub hl [1, 0] rfl) hF
  · replace hF := ifN hF c_1
    refine lv_bipush (v := -3) hx hb d_Model_back_7 (by decide) ?_
    cases hF
    exact r_iret K hw d_Model_back_9
end S_Model_back
abbrev F_Model_back := F_Model_back_0
theorem c_Model_back {l : Launch} {D : va_G} {cA : Nat → ClassId} {ad : Nat → Nat} {s0 τ : St} {r : Int32}   (hF : F_Model_back s0 = (some (r, τ))) : MI l D cA ad shM y_Model_back (wT y_Model_back b_Model_back 2 (some .int)) rm_Model_back [.ref (ad 0)] s0 r τ :=
  fun sz => m_start (Qc := fun A => QcI D cA ad shM A r τ) (by decide +kernel) w_1390 (Nat.le_of_ble_eq_true rfl) (fun p e s m below meth c ls K hl hw => q_Model_back_0 K _ _ _ _   hw hl hF)
