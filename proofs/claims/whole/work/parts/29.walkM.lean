/-! Model.toldWrong(III)I -/
abbrev b_Model_toldWrong : ByteArray := prog_13_method_59_code
def y_Model_toldWrong : MethodName := ⟨R_Model, "toldWrong", "(III)I"⟩
theorem a_Model_toldWrong : y_Model_toldWrong.cls = R_Model ∧ y_Model_toldWrong.cls ≠ "java/lang/invoke/MethodHandle" ∧ y_Model_toldWrong.cls ≠ "java/lang/invoke/VarHandle" ∧ (parseMethodDescriptor y_Model_toldWrong.desc).map (fun d => d.parameters.length) = some 3 := by decide +kernel
abbrev rm_Model_toldWrong : Room := { frames := 3, cells := 0, slots := 0, locals := 65 }
theorem w_1335 : Cond.methodLink R_Model 263 y_Model_sheetWrong ∈ TB := tb_in 1335 (by decide +kernel) (by decide +kernel)
theorem w_1337 : Cond.instanceMethod y_Model_sheetWrong ∈ TB := tb_in 1337 (by decide +kernel) (by decide +kernel)
theorem w_58 : Cond.selects R_Model y_Model_sheetWrong y_Model_sheetWrong ∈ TB := tb_in 58 (by decide +kernel) (by decide +kernel)
theorem w_1334 : Cond.code y_Model_toldWrong b_Model_toldWrong 5 (some .int) ∈ TB := tb_in 1334 (by decide +kernel) (by decide +kernel)
theorem d_Model_toldWrong_0 : decode b_Model_toldWrong 0 = .ok (.aload_n 0, 1) := by decide +kernel
theorem d_Model_toldWrong_1 : decode b_Model_toldWrong 1 = .ok (.iload_n 1, 1) := by decide +kernel
theorem d_Model_toldWrong_2 : decode b_Model_toldWrong 2 = .ok (.invokevirtual 263, 3) := by decide +kernel
theorem d_Model_toldWrong_5 : decode b_Model_toldWrong 5 = .ok (.istore 4, 2) := by decide +kernel
theorem d_Model_toldWrong_7 : decode b_Model_toldWrong 7 = .ok (.iload 4, 2) := by decide +kernel
theorem d_Model_toldWrong_9 : decode b_Model_toldWrong 9 = .ok (.ifCond .eq 8, 3) := by decide +kernel
theorem d_Model_toldWrong_12 : decode b_Model_toldWrong 12 = .ok (.iload 4, 2) := by decide +kernel
theorem d_Model_toldWrong_14 : decode b_Model_toldWrong 14 = .ok (.goto 18, 3) := by decide +kernel
theorem d_Model_toldWrong_17 : decode b_Model_toldWrong 17 = .ok (.aload_n 0, 1) := by decide +kernel
theorem d_Model_toldWrong_18 : decode b_Model_toldWrong 18 = .ok (.iload_n 2, 1) := by decide +kernel
theorem d_Model_toldWrong_19 : decode b_Model_toldWrong 19 = .ok (.iload_n 3, 1) := by decide +kernel
theorem d_Model_toldWrong_20 : decode b_Model_toldWrong 20 = .ok (.invokevirtual 86, 3) := by decide +kernel
theorem d_Model_toldWrong_23 : decode b_Model_toldWrong 23 = .ok (.ifCond .eq 7, 3) := by decide +kernel
theorem d_Model_toldWrong_26 : decode b_Model_toldWrong 26 = .ok (.iconst 0, 1) := by decide +kernel
theorem d_Model_toldWrong_27 : decode b_Model_toldWrong 27 = .ok (.goto 5, 3) := by decide +kernel
theorem d_Model_toldWrong_30 : decode b_Model_toldWrong 30 = .ok (.bipush (-5), 2) := by decide +kernel
theorem d_Model_toldWrong_32 : decode b_Model_toldWrong 32 = .ok (.ireturn, 1) := by decide +kernel
section S_Model_toldWrong
variable {p : Program} {l : Launch} {e : Env} {s : State} {m : MethodId} {args : Array Value} {below : List Frame} {meth : Method} {c : Code} {D : va_G} {cA : Nat → ClassId} {ad : Nat → Nat} {nC : Nat} {A : Nat → Prop} {r : Int32} {τ : St}
noncomputable def F_Model_toldWrong_0 (s0 : St) (v1 : Int32) (v2 : Int32) (v3 : Int32) : Option Int32 := (ob1 (F_Model_sheetWrong s0 v1) (fun r_1 => (if r_1 = 0 then (ob1 (F_Model_areTwo s0 v2 v3) (fun r_3 => (if r_3 = 0 then (some (-5 : Int32)) else (some (0 : Int32))))) else (some r_1))))
set_option maxHeartbeats 4000000 in
set_option maxRecDepth 100000 in
theorem q_Model_toldWrong_0 (s0 : St) (K : Fx p s m args meth c b_Model_toldWrong 5 R_Model (some .int))  : ∀ (H : Heap) (locs : List Loc) (ls : Array Slot) (v1 : Int32) (v2 : Int32) (v3 : Int32), Wh D cA ad shM A s s0 H locs → lv_has ls 5 [(0, .ref (ad 0)), (1, .int v1), (2, .int v2), (3, .int v3)] → F_Model_toldWrong_0 s0 v1 v2 v3 = (some r) → W p l e rm_Model_toldWrong s m args below meth c H locs 0 0 (MQ below (QcI D cA ad shM A r s0) args s 0 0 A) (F0 m 0 ls []) := by
  have hx := K.1.1; have hb := K.1.2.1
  intro H locs ls v1 v2 v3 hw hl hF
  unfold F_Model_toldWrong_0 at hF
  refine lv_aload_n hx hb d_Model_toldWrong_0 rfl (lv_at hl 0 rfl) ?_
  refine lv_iload_n hx hb d_Model_toldWrong_1 rfl (lv_at hl 1 rfl) ?_
  obtain ⟨r_1, h_r_1, hF⟩ := ob1E hF
  refine r_callVI (As := [.int v1]) (rest := []) K hw hl.1 (c_Model_sheetWrong (l := l) (D := D) (cA := cA) (ad := ad) (s0 := s0)   h_r_1) sh_Model rfl (tb_gV w_1335 w_1337 w_58 w_80 w_1338) a_Model_sheetWrong ⟨rfl, rfl, Nat.le_of_ble_eq_true rfl, Nat.le_of_ble_eq_true rfl⟩ rfl rfl (Nat.le_of_ble_eq_true rfl) d_Model_toldWrong_2 (fun H locs hw => ?_)
  refine lv_istore (lv' := [(4, .int r_1), (0, .ref (ad 0)), (1, .int v1), (2, .int v2), (3, .int v3)]) hx hb d_Model_toldWrong_5 hl (by decide) rfl (fun ls hl => ?_)
  refine lv_iload hx hb d_Model_toldWrong_7 (lv_at hl 0 rfl) ?_
  refine lv_if_eq (tgt := 17) hx hb d_Model_toldWrong_9 (by decide) (fun c_2 => ?_) (fun c_2 => ?_)
  · replace hF := ifT hF c_2
    refine lv_aload_n hx hb d_Model_toldWrong_17 rfl (lv_at hl 1 rfl) ?_
    refine lv_iload_n hx hb d_Model_toldWrong_18 rfl (lv_at hl 3 rfl) ?_
    refine lv_iload_n hx hb d_Model_toldWrong_19 rfl (lv_at hl 4 rfl) ?_
    obtain ⟨r_3, h_r_3, hF⟩ := ob1E hF
    refine r_callVI (As := [.int v2, .int v3]) (rest := []) K hw hl.1 (c_Model_areTwo (l := l) (D := D) (cA := cA) (ad := ad) (s0 := s0)   h_r_3) sh_Model rfl (tb_gV w_1226 w_1228 w_44 w_80 w_1229) a_Model_areTwo ⟨rfl, rfl, Nat.le_of_ble_eq_true rfl, Nat.le_of_ble_eq_true rfl⟩ rfl rfl (Nat.le_of_ble_eq_true rfl) d_Model_toldWrong_20 (fun H locs hw => ?_)
    refine lv_if_eq (tgt := 30) hx hb d_Model_toldWrong_23 (by decide) (fun c_4 => ?_) (fun c_4 => ?_)
    · replace hF := ifT hF c_4
      refine lv_bipush (v := -5) hx hb d_Model_toldWrong_30 (by decide) ?_
      replace hF := sE1 hF
      subst hF
      exact r_iret K hw d_Model_toldWrong_32
    · replace hF := ifF hF c_4
      refine lv_iconst (v := 0) hx hb d_Model_toldWrong_26 (by decide) ?_
      refine lv_goto (tgt := 32) hx hb d_Model_toldWrong_27 (by decide) ?_
      replace hF := sE1 hF
      subst hF
      exact r_iret K hw d_Model_toldWrong_32
  · replace hF := ifF hF c_2
    refine lv_iload hx hb d_Model_toldWrong_12 (lv_at hl 0 rfl) ?_
    refine lv_goto (tgt := 32) hx hb d_Model_toldWrong_14 (by decide) ?_
    replace hF := sE1 hF
    subst hF
    exact r_iret K hw d_Model_toldWrong_32
end S_Model_toldWrong
noncomputable abbrev F_Model_toldWrong := F_Model_toldWrong_0
theorem c_Model_toldWrong {l : Launch} {D : va_G} {cA : Nat → ClassId} {ad : Nat → Nat} {s0 : St} {r : Int32} {v1 : Int32} {v2 : Int32} {v3 : Int32}  (hF : F_Model_toldWrong s0 v1 v2 v3 = (some r)) : MI l D cA ad shM y_Model_toldWrong (wT y_Model_toldWrong b_Model_toldWrong 5 (some .int)) rm_Model_toldWrong [.ref (ad 0), .int v1, .int v2, .int v3] s0 r s0 := fun sz => m_start (Qc := fun A => QcI D cA ad shM A r s0) (by decide +kernel) w_1334 (Nat.le_of_ble_eq_true rfl) (fun p e s m below meth c ls K hl hw => q_Model_toldWrong_0 s0 K _ _ _ _ _ _  hw hl hF)

/-! Model.unlike(III)I -/
abbrev b_Model_unlike : ByteArray := prog_13_method_60_code
def y_Model_unlike : MethodName := ⟨R_Model, "unlike", "(III)I"⟩
theorem a_Model_unlike : y_Model_unlike.cls = R_Model ∧ y_Model_unlike.cls ≠ "java/lang/invoke/MethodHandle" ∧ y_Model_unlike.cls ≠ "java/lang/invoke/VarHandle" ∧ (parseMethodDescriptor y_Model_unlike.desc).map (fun d => d.parameters.length) = some 3 := by decide +kernel
abbrev rm_Model_unlike : Room := { frames := 6, cells := 0, slots := 0, locals := 153 }
theorem w_1044 : Cond.fieldLink R_Model 46 R_Model "cells" "[I" ∈ TB := tb_in 1044 (by decide +kernel) (by decide +kernel)
theorem w_1346 : Cond.code y_Model_unlike b_Model_unlike 5 (some .int) ∈ TB := tb_in 1346 (by decide +kernel) (by decide +kernel)
theorem d_Model_unlike_0 : decode b_Model_unlike 0 = .ok (.iconst 0, 1) := by decide +kernel
theorem d_Model_unlike_1 : decode b_Model_unlike 1 = .ok (.istore 4, 2) := by decide +kernel
theorem d_Model_unlike_3 : decode b_Model_unlike 3 = .ok (.iload 4, 2) := by decide +kernel
theorem d_Model_unlike_5 : decode b_Model_unlike 5 = .ok (.aload_n 0, 1) := by decide +kernel
theorem d_Model_unlike_6 : decode b_Model_unlike 6 = .ok (.getfield 43, 3) := by decide +kernel
theorem d_Model_unlike_9 : decode b_Model_unlike 9 = .ok (.iload_n 1, 1) := by decide +kernel
theorem d_Model_unlike_10 : decode b_Model_unlike 10 = .ok (.iaload, 1) := by decide +kernel
theorem d_Model_unlike_11 : decode b_Model_unlike 11 = .ok (.if_icmp .ge 43, 3) := by decide +kernel
theorem d_Model_unlike_14 : decode b_Model_unlike 14 = .ok (.aload_n 0, 1) := by decide +kernel
theorem d_Model_unlike_15 : decode b_Model_unlike 15 = .ok (.iload_n 2, 1) := by decide +kernel
theorem d_Model_unlike_16 : decode b_Model_unlike 16 = .ok (.iload_n 3, 1) := by decide +kernel
theorem d_Model_unlike_17 : decode b_Model_unlike 17 = .ok (.iconst 5, 1) := by decide +kernel
theorem d_Model_unlike_18 : decode b_Model_unlike 18 = .ok (.iload 4, 2) := by decide +kernel
theorem d_Model_unlike_20 : decode b_Model_unlike 20 = .ok (.imul, 1) := by decide +kernel
theorem d_Model_unlike_21 : decode b_Model_unlike 21 = .ok (.iconst 5, 1) := by decide +kernel
theorem d_Model_unlike_22 : decode b_Model_unlike 22 = .ok (.iadd, 1) := by decide +kernel
theorem d_Model_unlike_23 : decode b_Model_unlike 23 = .ok (.invokevirtual 213, 3) := by decide +kernel
theorem d_Model_unlike_26 : decode b_Model_unlike 26 = .ok (.aload_n 0, 1) := by decide +kernel
theorem d_Model_unlike_27 : decode b_Model_unlike 27 = .ok (.getfield 46, 3) := by decide +kernel
theorem d_Model_unlike_30 : decode b_Model_unlike 30 = .ok (.bipush 40, 2) := by decide +kernel
theorem d_Model_unlike_32 : decode b_Model_unlike 32 = .ok (.iload_n 1, 1) := by decide +kernel
theorem d_Model_unlike_33 : decode b_Model_unlike 33 = .ok (.imul, 1) := by decide +kernel
theorem d_Model_unlike_34 : decode b_Model_unlike 34 = .ok (.iload 4, 2) := by decide +kernel
theorem d_Model_unlike_36 : decode b_Model_unlike 36 = .ok (.iadd, 1) := by decide +kernel
theorem d_Model_unlike_37 : decode b_Model_unlike 37 = .ok (.iaload, 1) := by decide +kernel
theorem d_Model_unlike_38 : decode b_Model_unlike 38 = .ok (.aload_n 0, 1) := by decide +kernel
theorem d_Model_unlike_39 : decode b_Model_unlike 39 = .ok (.getfield 187, 3) := by decide +kernel
theorem d_Model_unlike_42 : decode b_Model_unlike 42 = .ok (.if_icmp .eq 6, 3) := by decide +kernel
theorem d_Model_unlike_45 : decode b_Model_unlike 45 = .ok (.iload 4, 2) := by decide +kernel
theorem d_Model_unlike_47 : decode b_Model_unlike 47 = .ok (.ireturn, 1) := by decide +kernel
theorem d_Model_unlike_48 : decode b_Model_unlike 48 = .ok (.iinc 4 1, 3) := by decide +kernel
theorem d_Model_unlike_51 : decode b_Model_unlike 51 = .ok (.goto (-48), 3) := by decide +kernel
theorem d_Model_unlike_54 : decode b_Model_unlike 54 = .ok (.iconst (-1), 1) := by decide +kernel
theorem d_Model_unlike_55 : decode b_Model_unlike 55 = .ok (.ireturn, 1) := by decide +kernel
section S_Model_unlike
variable {p : Program} {l : Launch} {e : Env} {s : State} {m : MethodId} {args : Array Value} {below : List Frame} {meth : Method} {c : Code} {D : va_G} {cA : Nat → ClassId} {ad : Nat → Nat} {nC : Nat} {A : Nat → Prop} {r : Int32} {τ : St}
noncomputable def F_Model_unlike_3 : Nat → St → Int32 → Int32 → Int32 → Int32 → Option (Int32 × St)
  | 0, _, _, _, _, _ => none
  | n + 1, s0, v1, v2, v3, v4 => (if inB v1 4 = true then (if (s0.1 12 v1.toNatClampNeg) ≤ v4 then (some ((-1 : Int32), s0)) else (ob1 (F_Model_goesOn s0 v2 v3 (((5 : Int32) * v4) + (5 : Int32))) (fun s_3 => (if inB (((40 : Int32) * v1) + v4) 160 = true then (if (s_3.1 13 (((40 : Int32) * v1) + v4).toNatClampNeg) = (s_3.1 0 32) then (F_Model_unlike_3 n s_3 v1 v2 v3 (v4 + 1)) else (some (v4, s_3))) else none)))) else none)
set_option maxHeartbeats 4000000 in
set_option maxRecDepth 100000 in
theorem q_Model_unlike_3 (K : Fx p s m args meth c b_Model_unlike 5 R_Model (some .int))  : ∀ (n : Nat), ∀ (H : Heap) (locs : List Loc) (ls : Array Slot) (s0 : St) (v1 : Int32) (v2 : Int32) (v3 : Int32) (v4 : Int32), Wh D cA ad shM A s s0 H locs → lv_has ls 5 [(0, .ref (ad 0)), (1, .int v1), (2, .int v2), (3, .int v3), (4, .int v4)] → F_Model_unlike_3 n s0 v1 v2 v3 v4 = (some (r, τ)) → W p l e rm_Model_unlike s m args below meth c H locs 0 0 (MQ below (QcI D cA ad shM A r τ) args s 0 0 A) (F0 m 3 ls []) := by
  have hx := K.1.1; have hb := K.1.2.1
  intro n
  induction n with
  | zero =>
    intro H locs ls s0 v1 v2 v3 v4 hw hl hF
    exact absurd hF (by rw [F_Model_unlike_3]; exact nofun)
  | succ n ih =>
    intro H locs ls s0 v1 v2 v3 v4 hw hl hF
    rw [F_Model_unlike_3] at hF
    refine lv_iload hx hb d_Model_unlike_3 (lv_at hl 4 rfl) ?_
    refine lv_aload_n hx hb d_Model_unlike_5 rfl (lv_at hl 0 rfl) ?_
    refine r_get (v := .ref (ad 12)) K hw i_Model sh_Model rfl 18 (by decide) w_1043 rfl rfl rfl d_Model_unlike_6 ?_
    refine lv_iload_n hx hb d_Model_unlike_9 rfl (lv_at hl 1 rfl) ?_
    obtain ⟨g_1, hF⟩ := ifG hF
    refine r_iald (k := v1.toNatClampNeg) K hw (show shM[12]? = some (.inr (.inl 4)) from rfl) rfl (inB_vp g_1) d_Model_unlike_10 ?_
    refine lv_icmp_ge (tgt := 54) hx hb d_Model_unlike_11 (by decide) (fun c_2 => ?_) (fun c_2 => ?_)
    · replace hF := ifT hF c_2
      refine lv_iconst (v := -1) hx hb d_Model_unlike_54 (by decide) ?_
      obtain ⟨hF, hG⟩ := sE2 hF
      subst hF
      subst hG
      exact r_iret K hw d_Model_unlike_55
    · replace hF := ifF hF c_2
      refine lv_aload_n hx hb d_Model_unlike_14 rfl (lv_at hl 0 rfl) ?_
      refine lv_iload_n hx hb d_Model_unlike_15 rfl (lv_at hl 2 rfl) ?_
      refine lv_iload_n hx hb d_Model_unlike_16 rfl (lv_at hl 3 rfl) ?_
      refine lv_iconst (v := 5) hx hb d_Model_unlike_17 (by decide) ?_
      refine lv_iload hx hb d_Model_unlike_18 (lv_at hl 4 rfl) ?_
      refine lv_imul hx hb d_Model_unlike_20 ?_
      refine lv_iconst (v := 5) hx hb d_Model_unlike_21 (by decide) ?_
      refine lv_iadd hx hb d_Model_unlike_22 ?_
      obtain ⟨s_3, h_s_3, hF⟩ := ob1E hF
      refine r_callVV (As := [.int v2, .int v3, .int (((5 : Int32) * v4) + (5 : Int32))]) (rest := []) K hw hl.1 (c_Model_goesOn (l := l) (D := D) (cA := cA) (ad := ad) (s0 := s0)   h_s_3) sh_Model rfl (tb_gV w_1234 w_1236 w_46 w_80 w_1237) a_Model_goesOn ⟨rfl, rfl, Nat.le_of_ble_eq_true rfl, Nat.le_of_ble_eq_true rfl⟩ rfl rfl (Nat.le_of_ble_eq_true rfl) d_Model_unlike_23 (fun H locs hw => ?_)
      refine lv_aload_n hx hb d_Model_unlike_26 rfl (lv_at hl 0 rfl) ?_
      refine r_get (v := .ref (ad 13)) K hw i_Model sh_Model rfl 19 (by decide) w_1044 rfl rfl rfl d_Model_unlike_27 ?_
      refine lv_bipush (v := 40) hx hb d_Model_unlike_30 (by decide) ?_
      refine lv_iload_n hx hb d_Model_unlike_32 rfl (lv_at hl 1 rfl) ?_
      refine lv_imul hx hb d_Model_unlike_33 ?_
      refine lv_iload hx hb d_Model_unlike_34 (lv_at hl 4 rfl) ?_
      refine lv_iadd hx hb d_Model_unlike_36 ?_
      obtain ⟨g_4, hF⟩ := ifG hF
      refine r_iald (k := (((40 : Int32) * v1) + v4).toNatClampNeg) K hw (show shM[13]? = some (.inr (.inl 160)) from rfl) rfl (inB_vp g_4) d_Model_unlike_37 ?_
      refine lv_aload_n hx hb d_Model_unlike_38 rfl (lv_at hl 0 rfl) ?_
      refine r_get (v := .int (s_3.1 0 32)) K hw i_Model sh_Model rfl 32 (by decide) w_1057 rfl rfl rfl d_Model_unlike_39 ?_
      refine lv_icmp_eq (tgt := 48) hx hb d_Model_unlike_42 (by decide) (fun c_5 => ?_) (fun c_5 => ?_)
      · replace hF := ifT hF c_5
        refine lv_iinc (v := (v4 + 1)) (lv' := [(4, .int (v4 + 1)), (0, .ref (ad 0)), (1, .int v1), (2, .int v2), (3, .int v3)]) hx hb d_Model_unlike_48 hl (k := 4) rfl rfl (by decide) rfl (fun ls hl => ?_)
        refine lv_goto (tgt := 3) hx hb d_Model_unlike_51 (by decide) ?_
        exact ih _ _ _ _ _ _ _ _  hw (lv_sub hl [1, 2, 3, 4, 0] rfl) hF
      · replace hF := ifF hF c_5
        refine lv_iload hx hb d_Model_unlike_45 (lv_at hl 4 rfl) ?_
        obtain ⟨hF, hG⟩ := sE2 hF
        subst hF
        subst hG
        exact r_iret K hw d_Model_unlike_47
noncomputable def F_Model_unlike_0 (s0 : St) (v1 : Int32) (v2 : Int32) (v3 : Int32) : Option (Int32 × St) := (F_Model_unlike_3 FU s0 v1 v2 v3 (0 : Int32))
set_option maxHeartbeats 4000000 in
set_option maxRecDepth 100000 in
theorem q_Model_unlike_0 (K : Fx p s m args meth c b_Model_unlike 5 R_Model (some .int))  : ∀ (H : Heap) (locs : List Loc) (ls : Array Slot) (s0 : St) (v1 : Int32) (v2 : Int32) (v3 : Int32), Wh D cA ad shM A s s0 H locs → lv_has ls 5 [(0, .ref (ad 0)), (1, .int v1), (2, .int v2), (3, .int v3)] → F_Model_unlike_0 s0 v1 v2 v3 = (some (r, τ)) → W p l e rm_Model_unlike s m args below meth c H locs 0 0 (MQ below (QcI D cA ad shM A r τ) args s 0 0 A) (F0 m 0 ls []) := by
  have hx := K.1.1; have hb := K.1.2.1
  intro H locs ls s0 v1 v2 v3 hw hl hF
  unfold F_Model_unlike_0 at hF
  refine lv_iconst (v := 0) hx hb d_Model_unlike_0 (by decide) ?_
  refine lv_istore (lv' := [(4, .int (0 : Int32)), (0, .ref (ad 0)), (1, .int v1), (2, .int v2), (3, .int v3)]) hx hb d_Model_unlike_1 hl (by decide) rfl (fun ls hl => ?_)
  exact q_Model_unlike_3 K FU _ _ _ _ _ _ _ _  hw (lv_sub hl [1, 2, 3, 4, 0] rfl) hF
end S_Model_unlike
noncomputable abbrev F_Model_unlike := F_Model_unlike_0
theorem c_Model_unlike {l : Launch} {D : va_G} {cA : Nat → ClassId} {ad : Nat → Nat} {s0 τ : St} {r : Int32} {v1 : Int32} {v2 : Int32} {v3 : Int32}  (hF : F_Model_unlike s0 v1 v2 v3 = (some (r, τ))) : MI l D cA ad shM y_Model_unlike (wT y_Model_unlike b_Model_unlike 5 (some .int)) rm_Model_unlike [.ref (ad 0), .int v1, .int v2, .int v3] s0 r τ := fun sz => m_start (Qc := fun A => QcI D cA ad shM A r τ) (by decide +kernel) w_1346 (Nat.le_of_ble_eq_true rfl) (fun p e s m below meth c ls K hl hw => q_Model_unlike_0 K _ _ _ _ _ _ _  hw hl hF)

/-! Model.unlikeNow(III)I -/
abbrev b_Model_unlikeNow : ByteArray := prog_13_method_61_code
def y_Model_unlikeNow : MethodName := ⟨R_Model, "unlikeNow", "(III)I"⟩
theorem a_Model_unlikeNow : y_Model_unlikeNow.cls = R_Model ∧ y_Model_unlikeNow.cls ≠ "java/lang/invoke/MethodHandle" ∧ y_Model_unlikeNow.cls ≠ "java/lang/invoke/VarHandle" ∧ (parseMethodDescriptor y_Model_unlikeNow.desc).map (fun d => d.parameters.length) = some 3 := by decide +kernel
abbrev rm_Model_unlikeNow : Room := { frames := 7, cells := 0, slots := 0, locals := 177 }
theorem w_1343 : Cond.methodLink R_Model 266 y_Model_unlike ∈ TB := tb_in 1343 (by decide +kernel) (by decide +kernel)
theorem w_1345 : Cond.instanceMethod y_Model_unlike ∈ TB := tb_in 1345 (by decide +kernel) (by decide +kernel)
theorem w_60 : Cond.selects R_Model y_Model_unlike y_Model_unlike ∈ TB := tb_in 60 (by decide +kernel) (by decide +kernel)
theorem w_1342 : Cond.code y_Model_unlikeNow b_Model_unlikeNow 4 (some .int) ∈ TB := tb_in 1342 (by decide +kernel) (by decide +kernel)
theorem d_Model_unlikeNow_0 : decode b_Model_unlikeNow 0 = .ok (.aload_n 0, 1) := by decide +kernel
theorem d_Model_unlikeNow_1 : decode b_Model_unlikeNow 1 = .ok (.iload_n 2, 1) := by decide +kernel
theorem d_Model_unlikeNow_2 : decode b_Model_unlikeNow 2 = .ok (.iload_n 3, 1) := by decide +kernel
theorem d_Model_unlikeNow_3 : decode b_Model_unlikeNow 3 = .ok (.iconst 0, 1) := by decide +kernel
theorem d_Model_unlikeNow_4 : decode b_Model_unlikeNow 4 = .ok (.invokevirtual 210, 3) := by decide +kernel
theorem d_Model_unlikeNow_7 : decode b_Model_unlikeNow 7 = .ok (.aload_n 0, 1) := by decide +kernel
theorem d_Model_unlikeNow_8 : decode b_Model_unlikeNow 8 = .ok (.iload_n 1, 1) := by decide +kernel
theorem d_Model_unlikeNow_9 : decode b_Model_unlikeNow 9 = .ok (.iload_n 2, 1) := by decide +kernel
theorem d_Model_unlikeNow_10 : decode b_Model_unlikeNow 10 = .ok (.iload_n 3, 1) := by decide +kernel
theorem d_Model_unlikeNow_11 : decode b_Model_unlikeNow 11 = .ok (.invokevirtual 266, 3) := by decide +kernel
theorem d_Model_unlikeNow_14 : decode b_Model_unlikeNow 14 = .ok (.ireturn, 1) := by decide +kernel
section S_Model_unlikeNow
variable {p : Program} {l : Launch} {e : Env} {s : State} {m : MethodId} {args : Array Value} {below : List Frame} {meth : Method} {c : Code} {D : va_G} {cA : Nat → ClassId} {ad : Nat → Nat} {nC : Nat} {A : Nat → Prop} {r : Int32} {τ : St}
noncomputable def F_Model_unlikeNow_0 (s0 : St) (v1 : Int32) (v2 : Int32) (v3 : Int32) : Option (Int32 × St) := (ob1 (F_Model_begins s0 v2 v3 (0 : Int32)) (fun s_1 => (ob2 (F_Model_unlike s_1 v1 v2 v3) (fun r_2 s_3 => (some (r_2, s_3))))))
set_option maxHeartbeats 4000000 in
set_option maxRecDepth 100000 in
theorem q_Model_unlikeNow_0 (K : Fx p s m args meth c b_Model_unlikeNow 4 R_Model (some .int))  : ∀ (H : Heap) (locs : List Loc) (ls : Array Slot) (s0 : St) (v1 : Int32) (v2 : Int32) (v3 : Int32), Wh D cA ad shM A s s0 H locs → lv_has ls 4 [(0, .ref (ad 0)), (1, .int v1), (2, .int v2), (3, .int v3)] → F_Model_unlikeNow_0 s0 v1 v2 v3 = (some (r, τ)) → W p l e rm_Model_unlikeNow s m args below meth c H locs 0 0 (MQ below (QcI D cA ad shM A r τ) args s 0 0 A) (F0 m 0 ls []) := by
  have hx := K.1.1; have hb := K.1.2.1
  intro H locs ls s0 v1 v2 v3 hw hl hF
  unfold F_Model_unlikeNow_0 at hF
  refine lv_aload_n hx hb d_Model_unlikeNow_0 rfl (lv_at hl 0 rfl) ?_
  refine lv_iload_n hx hb d_Model_unlikeNow_1 rfl (lv_at hl 2 rfl) ?_
  refine lv_iload_n hx hb d_Model_unlikeNow_2 rfl (lv_at hl 3 rfl) ?_
  refine lv_iconst (v := 0) hx hb d_Model_unlikeNow_3 (by decide) ?_
  obtain ⟨s_1, h_s_1, hF⟩ := ob1E hF
  refine r_callVV (As := [.int v2, .int v3, .int (0 : Int32)]) (rest := []) K hw hl.1 (c_Model_begins (l := l) (D := D) (cA := cA) (ad := ad) (s0 := s0)   h_s_1) sh_Model rfl (tb_gV w_1230 w_1232 w_45 w_80 w_1233) a_Model_begins ⟨rfl, rfl, Nat.le_of_ble_eq_true rfl, Nat.le_of_ble_eq_true rfl⟩ rfl rfl (Nat.le_of_ble_eq_true rfl) d_Model_unlikeNow_4 (fun H locs hw => ?_)
  refine lv_aload_n hx hb d_Model_unlikeNow_7 rfl (lv_at hl 0 rfl) ?_
  refine lv_iload_n hx hb d_Model_unlikeNow_8 rfl (lv_at hl 1 rfl) ?_
  refine lv_iload_n hx hb d_Model_unlikeNow_9 rfl (lv_at hl 2 rfl) ?_
  refine lv_iload_n hx hb d_Model_unlikeNow_10 rfl (lv_at hl 3 rfl) ?_
  obtain ⟨r_2, s_3, h_s_3, hF⟩ := ob2E hF
  refine r_callVI (As := [.int v1, .int v2, .int v3]) (rest := []) K hw hl.1 (c_Model_unlike (l := l) (D := D) (cA := cA) (ad := ad) (s0 := s_1)   h_s_3) sh_Model rfl (tb_gV w_1343 w_1345 w_60 w_80 w_1346) a_Model_unlike ⟨rfl, rfl, Nat.le_of_ble_eq_true rfl, Nat.le_of_ble_eq_true rfl⟩ rfl rfl (Nat.le_of_ble_eq_true rfl) d_Model_unlikeNow_11 (fun H locs hw => ?_)
  obtain ⟨hF, hG⟩ := sE2 hF
  subst hF
  subst hG
  exact r_iret K hw d_Model_unlikeNow_14
end S_Model_unlikeNow
noncomputable abbrev F_Model_unlikeNow := F_Model_unlikeNow_0
theorem c_Model_unlikeNow {l : Launch} {D : va_G} {cA : Nat → ClassId} {ad : Nat → Nat} {s0 τ : St} {r : Int32} {v1 : Int32} {v2 : Int32} {v3 : Int32}  (hF : F_Model_unlikeNow s0 v1 v2 v3 = (some (r, τ))) : MI l D cA ad shM y_Model_unlikeNow (wT y_Model_unlikeNow b_Model_unlikeNow 4 (some .int)) rm_Model_unlikeNow [.ref (ad 0), .int v1, .int v2, .int v3] s0 r τ := fun sz => m_start (Qc := fun A => QcI D cA ad shM A r τ) (by decide +kernel) w_1342 (Nat.le_of_ble_eq_true rfl) (fun p e s m below meth c ls K hl hw => q_Model_unlikeNow_0 K _ _ _ _ _ _ _  hw hl hF)

/-! Model.judge(III)I -/
abbrev b_Model_judge : ByteArray := prog_13_method_62_code
def y_Model_judge : MethodName := ⟨R_Model, "judge", "(III)I"⟩
theorem a_Model_judge : y_Model_judge.cls = R_Model ∧ y_Model_judge.cls ≠ "java/lang/invoke/MethodHandle" ∧ y_Model_judge.cls ≠ "java/lang/invoke/VarHandle" ∧ (parseMethodDescriptor y_Model_judge.desc).map (fun d => d.parameters.length) = some 3 := by decide +kernel
abbrev rm_Model_judge : Room := { frames := 8, cells := 0, slots := 0, locals := 200 }
theorem w_1331 : Cond.methodLink R_Model 269 y_Model_toldWrong ∈ TB := tb_in 1331 (by decide +kernel) (by decide +kernel)
theorem w_1333 : Cond.instanceMethod y_Model_toldWrong ∈ TB := tb_in 1333 (by decide +kernel) (by decide +kernel)
theorem w_57 : Cond.selects R_Model y_Model_toldWrong y_Model_toldWrong ∈ TB := tb_in 57 (by decide +kernel) (by decide +kernel)
theorem w_1339 : Cond.methodLink R_Model 272 y_Model_unlikeNow ∈ TB := tb_in 1339 (by decide +kernel) (by decide +kernel)
theorem w_1341 : Cond.instanceMethod y_Model_unlikeNow ∈ TB := tb_in 1341 (by decide +kernel) (by decide +kernel)
theorem w_59 : Cond.selects R_Model y_Model_unlikeNow y_Model_unlikeNow ∈ TB := tb_in 59 (by decide +kernel) (by decide +kernel)
theorem w_1330 : Cond.code y_Model_judge b_Model_judge 5 (some .int) ∈ TB := tb_in 1330 (by decide +kernel) (by decide +kernel)
theorem d_Model_judge_0 : decode b_Model_judge 0 = .ok (.aload_n 0, 1) := by decide +kernel
theorem d_Model_judge_1 : decode b_Model_judge 1 = .ok (.iload_n 1, 1) := by decide +kernel
theorem d_Model_judge_2 : decode b_Model_judge 2 = .ok (.iload_n 2, 1) := by decide +kernel
theorem d_Model_judge_3 : decode b_Model_judge 3 = .ok (.iload_n 3, 1) := by decide +kernel
theorem d_Model_judge_4 : decode b_Model_judge 4 = .ok (.invokevirtual 269, 3) := by decide +kernel
theorem d_Model_judge_7 : decode b_Model_judge 7 = .ok (.istore 4, 2) := by decide +kernel
theorem d_Model_judge_9 : decode b_Model_judge 9 = .ok (.iload 4, 2) := by decide +kernel
theorem d_Model_judge_11 : decode b_Model_judge 11 = .ok (.ifCond .ne 13, 3) := by decide +kernel
theorem d_Model_judge_14 : decode b_Model_judge 14 = .ok (.aload_n 0, 1) := by decide +kernel
theorem d_Model_judge_15 : decode b_Model_judge 15 = .ok (.iload_n 1, 1) := by decide +kernel
theorem d_Model_judge_16 : decode b_Model_judge 16 = .ok (.iload_n 2, 1) := by decide +kernel
theorem d_Model_judge_17 : decode b_Model_judge 17 = .ok (.iload_n 3, 1) := by decide +kernel
theorem d_Model_judge_18 : decode b_Model_judge 18 = .ok (.invokevirtual 272, 3) := by decide +kernel
theorem d_Model_judge_21 : decode b_Model_judge 21 = .ok (.goto 5, 3) := by decide +kernel
theorem d_Model_judge_24 : decode b_Model_judge 24 = .ok (.iload 4, 2) := by decide +kernel
theorem d_Model_judge_26 : decode b_Model_judge 26 = .ok (.ireturn, 1) := by decide +kernel
section S_Model_judge
variable {p : Program} {l : Launch} {e : Env} {s : State} {m : MethodId} {args : Array Value} {below : List Frame} {meth : Method} {c : Code} {D : va_G} {cA : Nat → ClassId} {ad : Nat → Nat} {nC : Nat} {A : Nat → Prop} {r : Int32} {τ : St}
noncomputable def F_Model_judge_0 (s0 : St) (v1 : Int32) (v2 : Int32) (v3 : Int32) : Option (Int32 × St) := (ob1 (F_Model_toldWrong s0 v1 v2 v3) (fun r_1 => (if ¬ r_1 = 0 then (some (r_1, s0)) else (ob2 (F_Model_unlikeNow s0 v1 v2 v3) (fun r_3 s_4 => (some (r_3, s_4)))))))
set_option maxHeartbeats 4000000 in
set_option maxRecDepth 100000 in
theorem q_Model_judge_0 (K : Fx p s m args meth c b_Model_judge 5 R_Model (some .int))  : ∀ (H : Heap) (locs : List Loc) (ls : Array Slot) (s0 : St) (v1 : Int32) (v2 : Int32) (v3 : Int32), Wh D cA ad shM A s s0 H locs → lv_has ls 5 [(0, .ref (ad 0)), (1, .int v1), (2, .int v2), (3, .int v3)] → F_Model_judge_0 s0 v1 v2 v3 = (some (r, τ)) → W p l e rm_Model_judge s m args below meth c H locs 0 0 (MQ below (QcI D cA ad shM A r τ) args s 0 0 A) (F0 m 0 ls []) := by
  have hx := K.1.1; have hb := K.1.2.1
  intro H locs ls s0 v1 v2 v3 hw hl hF
  unfold F_Model_judge_0 at hF
  refine lv_aload_n hx hb d_Model_judge_0 rfl (lv_at hl 0 rfl) ?_
  refine lv_iload_n hx hb d_Model_judge_1 rfl (lv_at hl 1 rfl) ?_
  refine lv_iload_n hx hb d_Model_judge_2 rfl (lv_at hl 2 rfl) ?_
  refine lv_iload_n hx hb d_Model_judge_3 rfl (lv_at hl 3 rfl) ?_
  obtain ⟨r_1, h_r_1, hF⟩ := ob1E hF
  refine r_callVI (As := [.int v1, .int v2, .int v3]) (rest := []) K hw hl.1 (c_Model_toldWrong (l := l) (D := D) (cA := cA) (ad := ad) (s0 := s0)   h_r_1) sh_Model rfl (tb_gV w_1331 w_1333 w_57 w_80 w_1334) a_Model_toldWrong ⟨rfl, rfl, Nat.le_of_ble_eq_true rfl, Nat.le_of_ble_eq_true rfl⟩ rfl rfl (Nat.le_of_ble_eq_true rfl) d_Model_judge_4 (fun H locs hw => ?_)
  refine lv_istore (lv' := [(4, .int r_1), (0, .ref (ad 0)), (1, .int v1), (2, .int v2), (3, .int v3)]) hx hb d_Model_judge_7 hl (by decide) rfl (fun ls hl => ?_)
  refine lv_iload hx hb d_Model_judge_9 (lv_at hl 0 rfl) ?_
  refine lv_if_ne (tgt := 24) hx hb d_Model_judge_11 (by decide) (fun c_2 => ?_) (fun c_2 => ?_)
  · replace hF := ifT hF c_2
    refine lv_iload hx hb d_Model_judge_24 (lv_at hl 0 rfl) ?_
    obtain ⟨hF, hG⟩ := sE2 hF
    subst hF
    subst hG
    exact r_iret K hw d_Model_judge_26
  · replace hF := ifN hF c_2
    refine lv_aload_n hx hb d_Model_judge_14 rfl (lv_at hl 1 rfl) ?_
    refine lv_iload_n hx hb d_Model_judge_15 rfl (lv_at hl 2 rfl) ?_
    refine lv_iload_n hx hb d_Model_judge_16 rfl (lv_at hl 3 rfl) ?_
    refine lv_iload_n hx hb d_Model_judge_17 rfl (lv_at hl 4 rfl) ?_
    obtain ⟨r_3, s_4, h_s_4, hF⟩ := ob2E hF
    refine r_callVI (As := [.int v1, .int v2, .int v3]) (rest := []) K hw hl.1 (c_Model_unlikeNow (l := l) (D := D) (cA := cA) (ad := ad) (s0 := s0)   h_s_4) sh_Model rfl (tb_gV w_1339 w_1341 w_59 w_80 w_1342) a_Model_unlikeNow ⟨rfl, rfl, Nat.le_of_ble_eq_true rfl, Nat.le_of_ble_eq_true rfl⟩ rfl rfl (Nat.le_of_ble_eq_true rfl) d_Model_judge_18 (fun H locs hw => ?_)
    refine lv_goto (tgt := 26) hx hb d_Model_judge_21 (by decide) ?_
    obtain ⟨hF, hG⟩ := sE2 hF
    subst hF
    subst hG
    exact r_iret K hw d_Model_judge_26
end S_Model_judge
noncomputable abbrev F_Model_judge := F_Model_judge_0
theorem c_Model_judge {l : Launch} {D : va_G} {cA : Nat → ClassId} {ad : Nat → Nat} {s0 τ : St} {r : Int32} {v1 : Int32} {v2 : Int32} {v3 : Int32}  (hF : F_Model_judge s0 v1 v2 v3 = (some (r, τ))) : MI l D cA ad shM y_Model_judge (wT y_Model_judge b_Model_judge 5 (some .int)) rm_Model_judge [.ref (ad 0), .int v1, .int v2, .int v3] s0 r τ := fun sz => m_start (Qc := fun A => QcI D cA ad shM A r τ) (by decide +kernel) w_1330 (Nat.le_of_ble_eq_true rfl) (fun p e s m below meth c ls K hl hw => q_Model_judge_0 K _ _ _ _ _ _ _  hw hl hF)

/-! Model.left(III)I -/
abbrev b_Model_left : ByteArray := prog_13_method_63_code
def y_Model_left : MethodName := ⟨R_Model, "left", "(III)I"⟩
theorem a_Model_left : y_Model_left.cls = R_Model ∧ y_Model_left.cls ≠ "java/lang/invoke/MethodHandle" ∧ y_Model_left.cls ≠ "java/lang/invoke/VarHandle" ∧ (parseMethodDescriptor y_Model_left.desc).map (fun d => d.parameters.length) = some 3 := by decide +kernel
abbrev rm_Model_left : Room := { frames := 7, cells := 0, slots := 0, locals := 177 }
theorem w_1350 : Cond.code y_Model_left b_Model_left 7 (some .int) ∈ TB := tb_in 1350 (by decide +kernel) (by decide +kernel)
theorem d_Model_left_0 : decode b_Model_left 0 = .ok (.aload_n 0, 1) := by decide +kernel
theorem d_Model_left_1 : decode b_Model_left 1 = .ok (.iload_n 1, 1) := by decide +kernel
theorem d_Model_left_2 : decode b_Model_left 2 = .ok (.iload_n 2, 1) := by decide +kernel
theorem d_Model_left_3 : decode b_Model_left 3 = .ok (.iload_n 3, 1) := by decide +kernel
theorem d_Model_left_4 : decode b_Model_left 4 = .ok (.invokevirtual 269, 3) := by decide +kernel
theorem d_Model_left_7 : decode b_Model_left 7 = .ok (.istore 4, 2) := by decide +kernel
theorem d_Model_left_9 : decode b_Model_left 9 = .ok (.iload 4, 2) := by decide +kernel
theorem d_Model_left_11 : decode b_Model_left 11 = .ok (.ifCond .eq 6, 3) := by decide +kernel
theorem d_Model_left_14 : decode b_Model_left 14 = .ok (.iload 4, 2) := by decide +kernel
theorem d_Model_left_16 : decode b_Model_left 16 = .ok (.ireturn, 1) := by decide +kernel
theorem d_Model_left_17 : decode b_Model_left 17 = .ok (.iconst 0, 1) := by decide +kernel
theorem d_Model_left_18 : decode b_Model_left 18 = .ok (.istore 5, 2) := by decide +kernel
theorem d_Model_left_20 : decode b_Model_left 20 = .ok (.iconst 0, 1) := by decide +kernel
theorem d_Model_left_21 : decode b_Model_left 21 = .ok (.istore 6, 2) := by decide +kernel
theorem d_Model_left_23 : decode b_Model_left 23 = .ok (.iload 6, 2) := by decide +kernel
theorem d_Model_left_25 : decode b_Model_left 25 = .ok (.bipush 24, 2) := by decide +kernel
theorem d_Model_left_27 : decode b_Model_left 27 = .ok (.if_icmp .gt 46, 3) := by decide +kernel
theorem d_Model_left_30 : decode b_Model_left 30 = .ok (.aload_n 0, 1) := by decide +kernel
theorem d_Model_left_31 : decode b_Model_left 31 = .ok (.iload_n 2, 1) := by decide +kernel
theorem d_Model_left_32 : decode b_Model_left 32 = .ok (.iload_n 3, 1) := by decide +kernel
theorem d_Model_left_33 : decode b_Model_left 33 = .ok (.iconst 0, 1) := by decide +kernel
theorem d_Model_left_34 : decode b_Model_left 34 = .ok (.invokevirtual 210, 3) := by decide +kernel
theorem d_Model_left_37 : decode b_Model_left 37 = .ok (.aload_n 0, 1) := by decide +kernel
theorem d_Model_left_38 : decode b_Model_left 38 = .ok (.iload 6, 2) := by decide +kernel
theorem d_Model_left_40 : decode b_Model_left 40 = .ok (.putfield 194, 3) := by decide +kernel
theorem d_Model_left_43 : decode b_Model_left 43 = .ok (.iload 5, 2) := by decide +kernel
theorem d_Model_left_45 : decode b_Model_left 45 = .ok (.aload_n 0, 1) := by decide +kernel
theorem d_Model_left_46 : decode b_Model_left 46 = .ok (.iload_n 1, 1) := by decide +kernel
theorem d_Model_left_47 : decode b_Model_left 47 = .ok (.iload_n 2, 1) := by decide +kernel
theorem d_Model_left_48 : decode b_Model_left 48 = .ok (.iload_n 3, 1) := by decide +kernel
theorem d_Model_left_49 : decode b_Model_left 49 = .ok (.invokevirtual 266, 3) := by decide +kernel
theorem d_Model_left_52 : decode b_Model_left 52 = .ok (.iconst (-1), 1) := by decide +kernel
theorem d_Model_left_53 : decode b_Model_left 53 = .ok (.if_icmp .ne 10, 3) := by decide +kernel
theorem d_Model_left_56 : decode b_Model_left 56 = .ok (.iconst 1, 1) := by decide +kernel
theorem d_Model_left_57 : decode b_Model_left 57 = .ok (.iload 6, 2) := by decide +kernel
theorem d_Model_left_59 : decode b_Model_left 59 = .ok (.ishl, 1) := by decide +kernel
theorem d_Model_left_60 : decode b_Model_left 60 = .ok (.goto 4, 3) := by decide +kernel
theorem d_Model_left_63 : decode b_Model_left 63 = .ok (.iconst 0, 1) := by decide +kernel
theorem d_Model_left_64 : decode b_Model_left 64 = .ok (.ior, 1) := by decide +kernel
theorem d_Model_left_65 : decode b_Model_left 65 = .ok (.istore 5, 2) := by decide +kernel
theorem d_Model_left_67 : decode b_Model_left 67 = .ok (.iinc 6 1, 3) := by decide +kernel
theorem d_Model_left_70 : decode b_Model_left 70 = .ok (.goto (-47), 3) := by decide +kernel
theorem d_Model_left_73 : decode b_Model_left 73 = .ok (.iload 5, 2) := by decide +kernel
theorem d_Model_left_75 : decode b_Model_left 75 = .ok (.ireturn, 1) := by decide +kernel
section S_Model_left
variable {p : Program} {l : Launch} {e : Env} {s : State} {m : MethodId} {args : Array Value} {below : List Frame} {meth : Method} {c : Code} {D : va_G} {cA : Nat → ClassId} {ad : Nat → Nat} {nC : Nat} {A : Nat → Prop} {r : Int32} {τ : St}
noncomputable def F_Model_left_64 (k14 : (St → Int32 → Int32 → Int32 → Int32 → Int32 → Option (Int32 × St))) (s0 : St) (v1 : Int32) (v2 : Int32) (v3 : Int32) (v6 : Int32) (t0 : Int32) (t1 : Int32) : Option (Int32 × St) := (k14 s0 v1 v2 v3 (t0 ||| t1) (v6 + 1))
set_option maxHeartbeats 4000000 in
set_option maxRecDepth 100000 in
theorem q_Model_left_64 (K : Fx p s m args meth c b_Model_left 7 R_Model (some .int)) (k14 : (St → Int32 → Int32 → Int32 → Int32 → Int32 → Option (Int32 × St))) (hk14 : ∀ (H : Heap) (locs : List Loc) (ls : Array Slot) (s0 : St) (v1 : Int32) (v2 : Int32) (v3 : Int32) (v5 : Int32) (v6 : Int32), Wh D cA ad shM A s s0 H locs → lv_has ls 7 [(0, .ref (ad 0)), (1, .int v1), (2, .int v2), (3, .int v3), (5, .int v5), (6, .int v6)] → k14 s0 v1 v2 v3 v5 v6 = (some (r, τ)) → W p l e rm_Model_left s m args below meth c H locs 0 0 (MQ below (QcI D cA ad shM A r τ) args s 0 0 A) (F0 m 23 ls [])) : ∀ (H : Heap) (locs : List Loc) (ls : Array Slot) (s0 : St) (v1 : Int32) (v2 : Int32) (v3 : Int32) (v6 : Int32) (t0 : Int32) (t1 : Int32), Wh D cA ad shM A s s0 H locs → lv_has ls 7 [(0, .ref (ad 0)), (1, .int v1), (2, .int v2), (3, .int v3), (6, .int v6)] → F_Model_left_64 k14 s0 v1 v2 v3 v6 t0 t1 = (some (r, τ)) → W p l e rm_Model_left s m args below meth c H locs 0 0 (MQ below (QcI D cA ad shM A r τ) args s 0 0 A) (F0 m 64 ls [.int t1, .int t0]) := by
  have hx := K.1.1; have hb := K.1.2.1
  intro H locs ls s0 v1 v2 v3 v6 t0 t1 hw hl hF
  unfold F_Model_left_64 at hF
  refine lv_ior hx hb d_Model_left_64 ?_
  refine lv_istore (lv' := [(5, .int (t0 ||| t1)), (0, .ref (ad 0)), (1, .int v1), (2, .int v2), (3, .int v3), (6, .int v6)]) hx hb d_Model_left_65 hl (by decide) rfl (fun ls hl => ?_)
  refine lv_iinc (v := (v6 + 1)) (lv' := [(6, .int (v6 + 1)), (5, .int (t0 ||| t1)), (0, .ref (ad 0)), (1, .int v1), (2, .int v2), (3, .int v3)]) hx hb d_Model_left_67 hl (k := 5) rfl rfl (by decide) rfl (fun ls hl => ?_)
  refine lv_goto (tgt := 23) hx hb d_Model_left_70 (by decide) ?_
  exact hk14 _ _ _ _ _ _ _ _ _  hw (lv_sub hl [2, 3, 4, 5, 1, 0] rfl) hF
noncomputable def F_Model_left_23 : Nat → St → Int32 → Int32 → Int32 → Int32 → Int32 → Option (Int32 × St)
  | 0, _, _, _, _, _, _ => none
  | n + 1, s0, v1, v2, v3, v5, v6 => (if (24 : Int32) < v6 then (some (v5, s0)) else (ob1 (F_Model_begins s0 v2 v3 (0 : Int32)) (fun s_4 => (lt (up1 s_4 0 34 v6) (fun s_5 => (ob2 (F_Model_unlike s_5 v1 v2 v3) (fun r_6 s_7 => (if ¬ r_6 = (-1 : Int32) then (F_Model_left_64 (fun z0 zv1 zv2 zv3 zv5 zv6 => F_Model_left_23 n z0 zv1 zv2 zv3 zv5 zv6) s_7 v1 v2 v3 v6 v5 (0 : Int32)) else (F_Model_left_64 (fun z0 zv1 zv2 zv3 zv5 zv6 => F_Model_left_23 n z0 zv1 zv2 zv3 zv5 zv6) s_7 v1 v2 v3 v6 v5 (jshl (1 : Int32) v6))))))))))
set_option maxHeartbeats 4000000 in
set_option maxRecDepth 100000 in
theorem q_Model_left_23 (K : Fx p s m args meth c b_Model_left 7 R_Model (some .int))  : ∀ (n : Nat), ∀ (H : Heap) (locs : List Loc) (ls : Array Slot) (s0 : St) (v1 : Int32) (v2 : Int32) (v3 : Int32) (v5 : Int32) (v6 : Int32), Wh D cA ad shM A s s0 H locs → lv_has ls 7 [(0, .ref (ad 0)), (1, .int v1), (2, .int v2), (3, .int v3), (5, .int v5), (6, .int v6)] → F_Model_left_23 n s0 v1 v2 v3 v5 v6 = (some (r, τ)) → W p l e rm_Model_left s m args below meth c H locs 0 0 (MQ below (QcI D cA ad shM A r τ) args s 0 0 A) (F0 m 23 ls []) := by
  have hx := K.1.1; have hb := K.1.2.1
  intro n
  induction n with
  | zero =>
    intro H locs ls s0 v1 v2 v3 v5 v6 hw hl hF
    exact absurd hF (by rw [F_Model_left_23]; exact nofun)
  | succ n ih =>
    intro H locs ls s0 v1 v2 v3 v5 v6 hw hl hF
    rw [F_Model_left_23] at hF
    refine lv_iload hx hb d_Model_left_23 (lv_at hl 5 rfl) ?_
    refine lv_bipush (v := 24) hx hb d_Model_left_25 (by decide) ?_
    refine lv_icmp_gt (tgt := 73) hx hb d_Model_left_27 (by decide) (fun c_3 => ?_) (fun c_3 => ?_)
    · replace hF := ifT hF c_3
      refine lv_iload hx hb d_Model_left_73 (lv_at hl 4 rfl) ?_
      obtain ⟨hF, hG⟩ := sE2 hF
      subst hF
      subst hG
      exact r_iret K hw d_Model_left_75
    · replace hF := ifF hF c_3
      refine lv_aload_n hx hb d_Model_left_30 rfl (lv_at hl 0 rfl) ?_
      refine lv_iload_n hx hb d_Model_left_31 rfl (lv_at hl 2 rfl) ?_
      refine lv_iload_n hx hb d_Model_left_32 rfl (lv_at hl 3 rfl) ?_
      refine lv_iconst (v := 0) hx hb d_Model_left_33 (by decide) ?_
      obtain ⟨s_4, h_s_4, hF⟩ := ob1E hF
      refine r_callVV (As := [.int v2, .int v3, .int (0 : Int32)]) (rest := []) K hw hl.1 (c_Model_begins (l := l) (D := D) (cA := cA) (ad := ad) (s0 := s0)   h_s_4) sh_Model rfl (tb_gV w_1230 w_1232 w_45 w_80 w_1233) a_Model_begins ⟨rfl, rfl, Nat.le_of_ble_eq_true rfl, Nat.le_of_ble_eq_true rfl⟩ rfl rfl (Nat.le_of_ble_eq_true rfl) d_Model_left_34 (fun H locs hw => ?_)
      refine lv_aload_n hx hb d_Model_left_37 rfl (lv_at hl 0 rfl) ?_
      refine lv_iload hx hb d_Model_left_38 (lv_at hl 5 rfl) ?_
      refine r_putI K hw i_Model t_Model t_Model_ok n_Model sh_Model rfl 34 (by decide) w_1059 rfl rfl rfl rfl rfl d_Model_left_40 (fun s_5 f_s_5 H locs hw => ?_)
      replace hF := ltN hF f_s_5
      refine lv_iload hx hb d_Model_left_43 (lv_at hl 4 rfl) ?_
      refine lv_aload_n hx hb d_Model_left_45 rfl (lv_at hl 0 rfl) ?_
      refine lv_iload_n hx hb d_Model_left_46 rfl (lv_at hl 1 rfl) ?_
      refine lv_iload_n hx hb d_Model_left_47 rfl (lv_at hl 2 rfl) ?_
      refine lv_iload_n hx hb d_Model_left_48 rfl (lv_at hl 3 rfl) ?_
      obtain ⟨r_6, s_7, h_s_7, hF⟩ := ob2E hF
      refine r_callVI (As := [.int v1, .int v2, .int v3]) (rest := [.int v5]) K hw hl.1 (c_Model_unlike (l := l) (D := D) (cA := cA) (ad := ad) (s0 := s_5)   h_s_7) sh_Model rfl (tb_gV w_1343 w_1345 w_60 w_80 w_1346) a_Model_unlike ⟨rfl, rfl, Nat.le_of_ble_eq_true rfl, Nat.le_of_ble_eq_true rfl⟩ rfl rfl (Nat.le_of_ble_eq_true rfl) d_Model_left_49 (fun H locs hw => ?_)
      refine lv_iconst (v := -1) hx hb d_Model_left_52 (by decide) ?_
      refine lv_icmp_ne (tgt := 63) hx hb d_Model_left_53 (by decide) (fun c_8 => ?_) (fun c_8 => ?_)
      · replace hF := ifT hF c_8
        refine lv_iconst (v := 0) hx hb d_Model_left_63 (by decide) ?_
        exact q_Model_left_64 K (fun z0 zv1 zv2 zv3 zv5 zv6 => F_Model_left_23 n z0 zv1 zv2 zv3 zv5 zv6) ih _ _ _ _ _ _ _ _ _ _  hw (lv_sub hl [0, 1, 2, 3, 5] rfl) hF
      · replace hF := ifN hF c_8
        refine lv_iconst (v := 1) hx hb d_Model_left_56 (by decide) ?_
        refine lv_iload hx hb d_Model_left_57 (lv_at hl 5 rfl) ?_
        refine lv_ishl hx hb d_Model_left_59 ?_
        refine lv_goto (tgt := 64) hx hb d_Model_left_60 (by decide) ?_
        exact q_Model_left_64 K (fun z0 zv1 zv2 zv3 zv5 zv6 => F_Model_left_23 n z0 zv1 zv2 zv3 zv5 zv6) ih _ _ _ _ _ _ _ _ _ _  hw (lv_sub hl [0, 1, 2, 3, 5] rfl) hF
noncomputable def F_Model_left_0 (s0 : St) (v1 : Int32) (v2 : Int32) (v3 : Int32) : Option (Int32 × St) := (ob1 (F_Model_toldWrong s0 v1 v2 v3) (fun r_1 => (if r_1 = 0 then (F_Model_left_23 FU s0 v1 v2 v3 (0 : Int32) (0 : Int32)) else (some (r_1, s0)))))
set_option maxHeartbeats 4000000 in
set_option maxRecDepth 100000 in
theorem q_Model_left_0 (K : Fx p s m args meth c b_Model_left 7 R_Model (some .int))  : ∀ (H : Heap) (locs : List Loc) (ls : Array Slot) (s0 : St) (v1 : Int32) (v2 : Int32) (v3 : Int32), Wh D cA ad shM A s s0 H locs → lv_has ls 7 [(0, .ref (ad 0)), (1, .int v1), (2, .int v2), (3, .int v3)] → F_Model_left_0 s0 v1 v2 v3 = (some (r, τ)) → W p l e rm_Model_left s m args below meth c H locs 0 0 (MQ below (QcI D cA ad shM A r τ) args s 0 0 A) (F0 m 0 ls []) := by
  have hx := K.1.1; have hb := K.1.2.1
  intro H locs ls s0 v1 v2 v3 hw hl hF
  unfold F_Model_left_0 at hF
  refine lv_aload_n hx hb d_Model_left_0 rfl (lv_at hl 0 rfl) ?_
  refine lv_iload_n hx hb d_Model_left_1 rfl (lv_at hl 1 rfl) ?_
  refine lv_iload_n hx hb d_Model_left_2 rfl (lv_at hl 2 rfl) ?_
  refine lv_iload_n hx hb d_Model_left_3 rfl (lv_at hl 3 rfl) ?_
  obtain ⟨r_1, h_r_1, hF⟩ := ob1E hF
  refine r_callVI (As := [.int v1, .int v2, .int v3]) (rest := []) K hw hl.1 (c_Model_toldWrong (l := l) (D := D) (cA := cA) (ad := ad) (s0 := s0)   h_r_1) sh_Model rfl (tb_gV w_1331 w_1333 w_57 w_80 w_1334) a_Model_toldWrong ⟨rfl, rfl, Nat.le_of_ble_eq_true rfl, Nat.le_of_ble_eq_true rfl⟩ rfl rfl (Nat.le_of_ble_eq_true rfl) d_Model_left_4 (fun H locs hw => ?_)
  refine lv_istore (lv' := [(4, .int r_1), (0, .ref (ad 0)), (1, .int v1), (2, .int v2), (3, .int v3)]) hx hb d_Model_left_7 hl (by decide) rfl (fun ls hl => ?_)
  refine lv_iload hx hb d_Model_left_9 (lv_at hl 0 rfl) ?_
  refine lv_if_eq (tgt := 17) hx hb d_Model_left_11 (by decide) (fun c_2 => ?_) (fun c_2 => ?_)
  · replace hF := ifT hF c_2
    refine lv_iconst (v := 0) hx hb d_Model_left_17 (by decide) ?_
    refine lv_istore (lv' := [(5, .int (0 : Int32)), (4, .int r_1), (0, .ref (ad 0)), (1, .int v1), (2, .int v2), (3, .int v3)]) hx hb d_Model_left_18 hl (by decide) rfl (fun ls hl => ?_)
    refine lv_iconst (v := 0) hx hb d_Model_left_20 (by decide) ?_
    refine lv_istore (lv' := [(6, .int (0 : Int32)), (5, .int (0 : Int32)), (4, .int r_1), (0, .ref (ad 0)), (1, .int v1), (2, .int v2), (3, .int v3)]) hx hb d_Model_left_21 hl (by decide) rfl (fun ls hl => ?_)
    exact q_Model_left_23 K FU _ _ _ _ _ _ _ _ _  hw (lv_sub hl [3, 4, 5, 6, 1, 0] rfl) hF
  · replace hF := ifF hF c_2
    refine lv_iload hx hb d_Model_left_14 (lv_at hl 0 rfl) ?_
    obtain ⟨hF, hG⟩ := sE2 hF
    subst hF
    subst hG
    exact r_iret K hw d_Model_left_16
end S_Model_left
noncomputable abbrev F_Model_left := F_Model_left_0
theorem c_Model_left {l : Launch} {D : va_G} {cA : Nat → ClassId} {ad : Nat → Nat} {s0 τ : St} {r : Int32} {v1 : Int32} {v2 : Int32} {v3 : Int32}  (hF : F_Model_left s0 v1 v2 v3 = (some (r, τ))) : MI l D cA ad shM y_Model_left (wT y_Model_left b_Model_left 7 (some .int)) rm_Model_left [.ref (ad 0), .int v1, .int v2, .int v3] s0 r τ := fun sz => m_start (Qc := fun A => QcI D cA ad shM A r τ) (by decide +kernel) w_1350 (Nat.le_of_ble_eq_true rfl) (fun p e s m below meth c ls K hl hw => q_Model_left_0 K _ _ _ _ _ _ _  hw hl hF)

/-! Model.whom(II)I -/
abbrev b_Model_whom : ByteArray := prog_13_method_64_code
def y_Model_whom : MethodName := ⟨R_Model, "whom", "(II)I"⟩
theorem a_Model_whom : y_Model_whom.cls = R_Model ∧ y_Model_whom.cls ≠ "java/lang/invoke/MethodHandle" ∧ y_Model_whom.cls ≠ "java/lang/invoke/VarHandle" ∧ (parseMethodDescriptor y_Model_whom.desc).map (fun d => d.parameters.length) = some 2 := by decide +kernel
abbrev rm_Model_whom : Room := { frames := 8, cells := 0, slots := 0, locals := 200 }
theorem w_1354 : Cond.code y_Model_whom b_Model_whom 6 (some .int) ∈ TB := tb_in 1354 (by decide +kernel) (by decide +kernel)
theorem d_Model_whom_0 : decode b_Model_whom 0 = .ok (.aload_n 0, 1) := by decide +kernel
theorem d_Model_whom_1 : decode b_Model_whom 1 = .ok (.iload_n 1, 1) := by decide +kernel
theorem d_Model_whom_2 : decode b_Model_whom 2 = .ok (.invokevirtual 263, 3) := by decide +kernel
theorem d_Model_whom_5 : decode b_Model_whom 5 = .ok (.istore_n 3, 1) := by decide +kernel
theorem d_Model_whom_6 : decode b_Model_whom 6 = .ok (.iload_n 3, 1) := by decide +kernel
theorem d_Model_whom_7 : decode b_Model_whom 7 = .ok (.ifCond .ne 11, 3) := by decide +kernel
theorem d_Model_whom_10 : decode b_Model_whom 10 = .ok (.aload_n 0, 1) := by decide +kernel
theorem d_Model_whom_11 : decode b_Model_whom 11 = .ok (.iload_n 2, 1) := by decide +kernel
theorem d_Model_whom_12 : decode b_Model_whom 12 = .ok (.invokevirtual 82, 3) := by decide +kernel
theorem d_Model_whom_15 : decode b_Model_whom 15 = .ok (.ifCond .ne 14, 3) := by decide +kernel
theorem d_Model_whom_18 : decode b_Model_whom 18 = .ok (.iload_n 3, 1) := by decide +kernel
theorem d_Model_whom_19 : decode b_Model_whom 19 = .ok (.ifCond .eq 7, 3) := by decide +kernel
theorem d_Model_whom_22 : decode b_Model_whom 22 = .ok (.iload_n 3, 1) := by decide +kernel
theorem d_Model_whom_23 : decode b_Model_whom 23 = .ok (.goto 5, 3) := by decide +kernel
theorem d_Model_whom_26 : decode b_Model_whom 26 = .ok (.bipush (-5), 2) := by decide +kernel
theorem d_Model_whom_28 : decode b_Model_whom 28 = .ok (.ireturn, 1) := by decide +kernel
theorem d_Model_whom_29 : decode b_Model_whom 29 = .ok (.iconst 0, 1) := by decide +kernel
theorem d_Model_whom_30 : decode b_Model_whom 30 = .ok (.istore 4, 2) := by decide +kernel
theorem d_Model_whom_32 : decode b_Model_whom 32 = .ok (.iconst 0, 1) := by decide +kernel
theorem d_Model_whom_33 : decode b_Model_whom 33 = .ok (.istore 5, 2) := by decide +kernel
theorem d_Model_whom_35 : decode b_Model_whom 35 = .ok (.iload 5, 2) := by decide +kernel
theorem d_Model_whom_37 : decode b_Model_whom 37 = .ok (.aload_n 0, 1) := by decide +kernel
theorem d_Model_whom_38 : decode b_Model_whom 38 = .ok (.getfield 75, 3) := by decide +kernel
theorem d_Model_whom_41 : decode b_Model_whom 41 = .ok (.if_icmp .ge 40, 3) := by decide +kernel
theorem d_Model_whom_44 : decode b_Model_whom 44 = .ok (.iload 4, 2) := by decide +kernel
theorem d_Model_whom_46 : decode b_Model_whom 46 = .ok (.iload 5, 2) := by decide +kernel
theorem d_Model_whom_48 : decode b_Model_whom 48 = .ok (.iload_n 2, 1) := by decide +kernel
theorem d_Model_whom_49 : decode b_Model_whom 49 = .ok (.if_icmp .eq 22, 3) := by decide +kernel
theorem d_Model_whom_52 : decode b_Model_whom 52 = .ok (.aload_n 0, 1) := by decide +kernel
theorem d_Model_whom_53 : decode b_Model_whom 53 = .ok (.iload_n 1, 1) := by decide +kernel
theorem d_Model_whom_54 : decode b_Model_whom 54 = .ok (.iload_n 2, 1) := by decide +kernel
theorem d_Model_whom_55 : decode b_Model_whom 55 = .ok (.iload 5, 2) := by decide +kernel
theorem d_Model_whom_57 : decode b_Model_whom 57 = .ok (.invokevirtual 272, 3) := by decide +kernel
theorem d_Model_whom_60 : decode b_Model_whom 60 = .ok (.iconst (-1), 1) := by decide +kernel
theorem d_Model_whom_61 : decode b_Model_whom 61 = .ok (.if_icmp .ne 10, 3) := by decide +kernel
theorem d_Model_whom_64 : decode b_Model_whom 64 = .ok (.iconst 1, 1) := by decide +kernel
theorem d_Model_whom_65 : decode b_Model_whom 65 = .ok (.iload 5, 2) := by decide +kernel
theorem d_Model_whom_67 : decode b_Model_whom 67 = .ok (.ishl, 1) := by decide +kernel
theorem d_Model_whom_68 : decode b_Model_whom 68 = .ok (.goto 4, 3) := by decide +kernel
theorem d_Model_whom_71 : decode b_Model_whom 71 = .ok (.iconst 0, 1) := by decide +kernel
theorem d_Model_whom_72 : decode b_Model_whom 72 = .ok (.ior, 1) := by decide +kernel
theorem d_Model_whom_73 : decode b_Model_whom 73 = .ok (.istore 4, 2) := by decide +kernel
theorem d_Model_whom_75 : decode b_Model_whom 75 = .ok (.iinc 5 1, 3) := by decide +kernel
theorem d_Model_whom_78 : decode b_Model_whom 78 = .ok (.goto (-43), 3) := by decide +kernel
theorem d_Model_whom_81 : decode b_Model_whom 81 = .ok (.iload 4, 2) := by decide +kernel
theorem d_Model_whom_83 : decode b_Model_whom 83 = .ok (.ireturn, 1) := by decide +kernel
section S_Model_whom
variable {p : Program} {l : Launch} {e : Env} {s : State} {m : MethodId} {args : Array Value} {below : List Frame} {meth : Method} {c : Code} {D : va_G} {cA : Nat → ClassId} {ad : Nat → Nat} {nC : Nat} {A : Nat → Prop} {r : Int32} {τ : St}
noncomputable def F_Model_whom_18 (s0 : St) (v3 : Int32) : Option (Int32 × St) := (if v3 = 0 then (some ((-5 : Int32), s0)) else (some (v3, s0)))
set_option maxHeartbeats 4000000 in
set_option maxRecDepth 100000 in
theorem q_Model_whom_18 (K : Fx p s m args meth c b_Model_whom 6 R_Model (some .int))  : ∀ (H : Heap) (locs : List Loc) (ls : Array Slot) (s0 : St) (v3 : Int32), Wh D cA ad shM A s s0 H locs → lv_has ls 6 [(3, .int v3)] → F_Model_whom_18 s0 v3 = (some (r, τ)) → W p l e rm_Model_whom s m args below meth c H locs 0 0 (MQ below (QcI D cA ad shM A r τ) args s 0 0 A) (F0 m 18 ls []) := by
  have hx := K.1.1; have hb := K.1.2.1
  intro H locs ls s0 v3 hw hl hF
  unfold F_Model_whom_18 at hF
  refine lv_iload_n hx hb d_Model_whom_18 rfl (lv_at hl 0 rfl) ?_
  refine lv_if_eq (tgt := 26) hx hb d_Model_whom_19 (by decide) (fun c_3 => ?_) (fun c_3 => ?_)
  · replace hF := ifT hF c_3
    refine lv_bipush (v := -5) hx hb d_Model_whom_26 (by decide) ?_
    obtain ⟨hF, hG⟩ := sE2 hF
    subst hF
    subst hG
    exact r_iret K hw d_Model_whom_28
  · replace hF := ifF hF c_3
    refine lv_iload_n hx hb d_Model_whom_22 rfl (lv_at hl 0 rfl) ?_
    refine lv_goto (tgt := 28) hx hb d_Model_whom_23 (by decide) ?_
    obtain ⟨hF, hG⟩ := sE2 hF
    subst hF
    subst hG
    exact r_iret K hw d_Model_whom_28
noncomputable def F_Model_whom_72 (k20 : (St → Int32 → Int32 → Int32 → Int32 → Option (Int32 × St))) (s0 : St) (v1 : Int32) (v2 : Int32) (v5 : Int32) (t0 : Int32) (t1 : Int32) : Option (Int32 × St) := (k20 s0 v1 v2 (t0 ||| t1) (v5 + 1))
set_option maxHeartbeats 4000000 in
set_option maxRecDepth 100000 in
theorem q_Model_whom_72 (K : Fx p s m args meth c b_Model_whom 6 R_Model (some .int)) (k20 : (St → Int32 → Int32 → Int32 → Int32 → Option (Int32 × St))) (hk20 : ∀ (H : Heap) (locs : List Loc) (ls : Array Slot) (s0 : St) (v1 : Int32) (v2 : Int32) (v4 : Int32) (v5 : Int32), Wh D cA ad shM A s s0 H locs → lv_has ls 6 [(0, .ref (ad 0)), (1, .int v1), (2, .int v2), (4, .int v4), (5, .int v5)] → k20 s0 v1 v2 v4 v5 = (some (r, τ)) → W p l e rm_Model_whom s m args below meth c H locs 0 0 (MQ below (QcI D cA ad shM A r τ) args s 0 0 A) (F0 m 35 ls [])) : ∀ (H : Heap) (locs : List Loc) (ls : Array Slot) (s0 : St) (v1 : Int32) (v2 : Int32) (v5 : Int32) (t0 : Int32) (t1 : Int32), Wh D cA ad shM A s s0 H locs → lv_has ls 6 [(0, .ref (ad 0)), (1, .int v1), (2, .int v2), (5, .int v5)] → F_Model_whom_72 k20 s0 v1 v2 v5 t0 t1 = (some (r, τ)) → W p l e rm_Model_whom s m args below meth c H locs 0 0 (MQ below (QcI D cA ad shM A r τ) args s 0 0 A) (F0 m 72 ls [.int t1, .int t0]) := by
  have hx := K.1.1; have hb := K.1.2.1
  intro H locs ls s0 v1 v2 v5 t0 t1 hw hl hF
  unfold F_Model_whom_72 at hF
  refine lv_ior hx hb d_Model_whom_72 ?_
  refine lv_istore (lv' := [(4, .int (t0 ||| t1)), (0, .ref (ad 0)), (1, .int v1), (2, .int v2), (5, .int v5)]) hx hb d_Model_whom_73 hl (by decide) rfl (fun ls hl => ?_)
  refine lv_iinc (v := (v5 + 1)) (lv' := [(5, .int (v5 + 1)), (4, .int (t0 ||| t1)), (0, .ref (ad 0)), (1, .int v1), (2, .int v2)]) hx hb d_Model_whom_75 hl (k := 4) rfl rfl (by decide) rfl (fun ls hl => ?_)
  refine lv_goto (tgt := 35) hx hb d_Model_whom_78 (by decide) ?_
  exact hk20 _ _ _ _ _ _ _ _  hw (lv_sub hl [2, 3, 4, 1, 0] rfl) hF
noncomputable def F_Model_whom_71 (k20 : (St → Int32 → Int32 → Int32 → Int32 → Option (Int32 × St))) (s0 : St) (v1 : Int32) (v2 : Int32) (v5 : Int32) (t0 : Int32) : Option (Int32 × St) := (F_Model_whom_72 k20 s0 v1 v2 v5 t0 (0 : Int32))
set_option maxHeartbeats 4000000 in
set_option maxRecDepth 100000 in
theorem q_Model_whom_71 (K : Fx p s m args meth c b_Model_whom 6 R_Model (some .int)) (k20 : (St → Int32 → Int32 → Int32 → Int32 → Option (Int32 × St))) (hk20 : ∀ (H : Heap) (locs : List Loc) (ls : Array Slot) (s0 : St) (v1 : Int32) (v2 : Int32) (v4 : Int32) (v5 : Int32), Wh D cA ad shM A s s0 H locs → lv_has ls 6 [(0, .ref (ad 0)), (1, .int v1), (2, .int v2), (4, .int v4), (5, .int v5)] → k20 s0 v1 v2 v4 v5 = (some (r, τ)) → W p l e rm_Model_whom s m args below meth c H locs 0 0 (MQ below (QcI D cA ad shM A r τ) args s 0 0 A) (F0 m 35 ls [])) : ∀ (H : Heap) (locs : List Loc) (ls : Array Slot) (s0 : St) (v1 : Int32) (v2 : Int32) (v5 : Int32) (t0 : Int32), Wh D cA ad shM A s s0 H locs → lv_has ls 6 [(0, .ref (ad 0)), (1, .int v1), (2, .int v2), (5, .int v5)] → F_Model_whom_71 k20 s0 v1 v2 v5 t0 = (some (r, τ)) → W p l e rm_Model_whom s m args below meth c H locs 0 0 (MQ below (QcI D cA ad shM A r τ) args s 0 0 A) (F0 m 71 ls [.int t0]) := by
  have hx := K.1.1; have hb := K.1.2.1
  intro H locs ls s0 v1 v2 v5 t0 hw hl hF
  unfold F_Model_whom_71 at hF
  refine lv_iconst (v := 0) hx hb d_Model_whom_71 (by decide) ?_
  exact q_Model_whom_72 K k20 hk20 _ _ _ _ _ _ _ _ _  hw (lv_sub hl [0, 1, 2, 3] rfl) hF
noncomputable def F_Model_whom_35 : Nat → St → Int32 → Int32 → Int32 → Int32 → Option (Int32 × St)
  | 0, _, _, _, _, _ => none
  | n + 1, s0, v1, v2, v4, v5 => (if (s0.1 0 0) ≤ v5 then (some (v4, s0)) else (if v5 = v2 then (F_Model_whom_71 (fun z0 zv1 zv2 zv4 zv5 => F_Model_whom_35 n z0 zv1 zv2 zv4 zv5) s0 v1 v2 v5 v4) else (ob2 (F_Model_unlikeNow s0 v1 v2 v5) (fun r_8 s_9 => (if ¬ r_8 = (-1 : Int32) then (F_Model_whom_71 (fun z0 zv1 zv2 zv4 zv5 => F_Model_whom_35 n z0 zv1 zv2 zv4 zv5) s_9 v1 v2 v5 v4) else (F_Model_whom_72 (fun z0 zv1 zv2 zv4 zv5 => F_Model_whom_35 n z0 zv1 zv2 zv4 zv5) s_9 v1 v2 v5 v4 (jshl (1 : Int32) v5)))))))
set_option maxHeartbeats 4000000 in
set_option maxRecDepth 100000 in
theorem q_Model_whom_35 (K : Fx p s m args meth c b_Model_whom 6 R_Model (some .int))  : ∀ (n : Nat), ∀ (H : Heap) (locs : List Loc) (ls : Array Slot) (s0 : St) (v1 : Int32) (v2 : Int32) (v4 : Int32) (v5 : Int32), Wh D cA ad shM A s s0 H locs → lv_has ls 6 [(0, .ref (ad 0)), (1, .int v1), (2, .int v2), (4, .int v4), (5, .int v5)] → F_Model_whom_35 n s0 v1 v2 v4 v5 = (some (r, τ)) → W p l e rm_Model_whom s m args below meth c H locs 0 0 (MQ below (QcI D cA ad shM A r τ) args s 0 0 A) (F0 m 35 ls []) := by
  have hx := K.1.1; have hb := K.1.2.1
  intro n
  induction n with
  | zero =>
    intro H locs ls s0 v1 v2 v4 v5 hw hl hF
    exact absurd hF (by rw [F_Model_whom_35]; exact nofun)
  | succ n ih =>
    intro H locs ls s0 v1 v2 v4 v5 hw hl hF
    rw [F_Model_whom_35] at hF
    refine lv_iload hx hb d_Model_whom_35 (lv_at hl 4 rfl) ?_
    refine lv_aload_n hx hb d_Model_whom_37 rfl (lv_at hl 0 rfl) ?_
    refine r_get (v := .int (s0.1 0 0)) K hw i_Model sh_Model rfl 0 (by decide) w_1025 rfl rfl rfl d_Model_whom_38 ?_
    refine lv_icmp_ge (tgt := 81) hx hb d_Model_whom_41 (by decide) (fun c_6 => ?_) (fun c_6 => ?_)
    · replace hF := ifT hF c_6
      refine lv_iload hx hb d_Model_whom_81 (lv_at hl 3 rfl) ?_
      obtain ⟨hF, hG⟩ := sE2 hF
      subst hF
      subst hG
      exact r_iret K hw d_Model_whom_83
    · replace hF := ifF hF c_6
      refine lv_iload hx hb d_Model_whom_44 (lv_at hl 3 rfl) ?_
      refine lv_iload hx hb d_Model_whom_46 (lv_at hl 4 rfl) ?_
      refine lv_iload_n hx hb d_Model_whom_48 rfl (lv_at hl 2 rfl) ?_
      refine lv_icmp_eq (tgt := 71) hx hb d_Model_whom_49 (by decide) (fun c_7 => ?_) (fun c_7 => ?_)
      · replace hF := ifT hF c_7
        exact q_Model_whom_71 K (fun z0 zv1 zv2 zv4 zv5 => F_Model_whom_35 n z0 zv1 zv2 zv4 zv5) ih _ _ _ _ _ _ _ _  hw (lv_sub hl [0, 1, 2, 4] rfl) hF
      · replace hF := ifF hF c_7
        refine lv_aload_n hx hb d_Model_whom_52 rfl (lv_at hl 0 rfl) ?_
        refine lv_iload_n hx hb d_Model_whom_53 rfl (lv_at hl 1 rfl) ?_
        refine lv_iload_n hx hb d_Model_whom_54 rfl (lv_at hl 2 rfl) ?_
        refine lv_iload hx hb d_Model_whom_55 (lv_at hl 4 rfl) ?_
        obtain ⟨r_8, s_9, h_s_9, hF⟩ := ob2E hF
        refine r_callVI (As := [.int v1, .int v2, .int v5]) (rest := [.int v4]) K hw hl.1 (c_Model_unlikeNow (l := l) (D := D) (cA := cA) (ad := ad) (s0 := s0)   h_s_9) sh_Model rfl (tb_gV w_1339 w_1341 w_59 w_80 w_1342) a_Model_unlikeNow ⟨rfl, rfl, Nat.le_of_ble_eq_true rfl, Nat.le_of_ble_eq_true rfl⟩ rfl rfl (Nat.le_of_ble_eq_true rfl) d_Model_whom_57 (fun H locs hw => ?_)
        refine lv_iconst (v := -1) hx hb d_Model_whom_60 (by decide) ?_
        refine lv_icmp_ne (tgt := 71) hx hb d_Model_whom_61 (by decide) (fun c_10 => ?_) (fun c_10 => ?_)
        · replace hF := ifT hF c_10
          exact q_Model_whom_71 K (fun z0 zv1 zv2 zv4 zv5 => F_Model_whom_35 n z0 zv1 zv2 zv4 zv5) ih _ _ _ _ _ _ _ _  hw (lv_sub hl [0, 1, 2, 4] rfl) hF
        · replace hF := ifN hF c_10
          refine lv_iconst (v := 1) hx hb d_Model_whom_64 (by decide) ?_
          refine lv_iload hx hb d_Model_whom_65 (lv_at hl 4 rfl) ?_
          refine lv_ishl hx hb d_Model_whom_67 ?_
          refine lv_goto (tgt := 72) hx hb d_Model_whom_68 (by decide) ?_
          exact q_Model_whom_72 K (fun z0 zv1 zv2 zv4 zv5 => F_Model_whom_35 n z0 zv1 zv2 zv4 zv5) ih _ _ _ _ _ _ _ _ _  hw (lv_sub hl [0, 1, 2, 4] rfl) hF
noncomputable def F_Model_whom_0 (s0 : St) (v1 : Int32) (v2 : Int32) : Option (Int32 × St) := (ob1 (F_Model_sheetWrong s0 v1) (fun r_1 => (if ¬ r_1 = 0 then (F_Model_whom_18 s0 r_1) else (ob1 (F_Model_isArm s0 v2) (fun r_4 => (if ¬ r_4 = 0 then (F_Model_whom_35 FU s0 v1 v2 (0 : Int32) (0 : Int32)) else (F_Model_whom_18 s0 r_1)))))))
set_option maxHeartbeats 4000000 in
set_option maxRecDepth 100000 in
theorem q_Model_whom_0 (K : Fx p s m args meth c b_Model_whom 6 R_Model (some .int))  : ∀ (H : Heap) (locs : List Loc) (ls : Array Slot) (s0 : St) (v1 : Int32) (v2 : Int32), Wh D cA ad shM A s s0 H locs → lv_has ls 6 [(0, .ref (ad 0)), (1, .int v1), (2, .int v2)] → F_Model_whom_0 s0 v1 v2 = (some (r, τ)) → W p l e rm_Model_whom s m args below meth c H locs 0 0 (MQ below (QcI D cA ad shM A r τ) args s 0 0 A) (F0 m 0 ls []) := by
  have hx := K.1.1; have hb := K.1.2.1
  intro H locs ls s0 v1 v2 hw hl hF
  unfold F_Model_whom_0 at hF
  refine lv_aload_n hx hb d_Model_whom_0 rfl (lv_at hl 0 rfl) ?_
  refine lv_iload_n hx hb d_Model_whom_1 rfl (lv_at hl 1 rfl) ?_
  obtain ⟨r_1, h_r_1, hF⟩ := ob1E hF
  refine r_callVI (As := [.int v1]) (rest := []) K hw hl.1 (c_Model_sheetWrong (l := l) (D := D) (cA := cA) (ad := ad) (s0 := s0)   h_r_1) sh_Model rfl (tb_gV w_1335 w_1337 w_58 w_80 w_1338) a_Model_sheetWrong ⟨rfl, rfl, Nat.le_of_ble_eq_true rfl, Nat.le_of_ble_eq_true rfl⟩ rfl rfl (Nat.le_of_ble_eq_true rfl) d_Model_whom_2 (fun H locs hw => ?_)
  refine lv_istore_n (lv' := [(3, .int r_1), (0, .ref (ad 0)), (1, .int v1), (2, .int v2)]) hx hb d_Model_whom_5 rfl hl (by decide) rfl (fun ls hl => ?_)
  refine lv_iload_n hx hb d_Model_whom_6 rfl (lv_at hl 0 rfl) ?_
  refine lv_if_ne (tgt := 18) hx hb d_Model_whom_7 (by decide) (fun c_2 => ?_) (fun c_2 => ?_)
  · replace hF := ifT hF c_2
    exact q_Model_whom_18 K _ _ _ _ _  hw (lv_sub hl [0] rfl) hF
  · replace hF := ifN hF c_2
    refine lv_aload_n hx hb d_Model_whom_10 rfl (lv_at hl 1 rfl) ?_
    refine lv_iload_n hx hb d_Model_whom_11 rfl (lv_at hl 3 rfl) ?_
    obtain ⟨r_4, h_r_4, hF⟩ := ob1E hF
    refine r_callVI (As := [.int v2]) (rest := []) K hw hl.1 (c_Model_isArm (l := l) (D := D) (cA := cA) (ad := ad) (s0 := s0)   h_r_4) sh_Model rfl (tb_gV w_1181 w_1183 w_39 w_80 w_1184) a_Model_isArm ⟨rfl, rfl, Nat.le_of_ble_eq_true rfl, Nat.le_of_ble_eq_true rfl⟩ rfl rfl (Nat.le_of_ble_eq_true rfl) d_Model_whom_12 (fun H locs hw => ?_)
    refine lv_if_ne (tgt := 29) hx hb d_Model_whom_15 (by decide) (fun c_5 => ?_) (fun c_5 => ?_)
    · replace hF := ifT hF c_5
      refine lv_iconst (v := 0) hx hb d_Model_whom_29 (by decide) ?_
      refine lv_istore (lv' := [(4, .int (0 : Int32)), (3, .int r_1), (0, .ref (ad 0)), (1, .int v1), (2, .int v2)]) hx hb d_Model_whom_30 hl (by decide) rfl (fun ls hl => ?_)
      refine lv_iconst (v := 0) hx hb d_Model_whom_32 (by decide) ?_
      refine lv_istore (lv' := [(5, .int (0 : Int32)), (4, .int (0 : Int32)), (3, .int r_1), (0, .ref (ad 0)), (1, .int v1), (2, .int v2)]) hx hb d_Model_whom_33 hl (by decide) rfl (fun ls hl => ?_)
      exact q_Model_whom_35 K FU _ _ _ _ _ _ _ _  hw (lv_sub hl [3, 4, 5, 1, 0] rfl) hF
    · replace hF := ifN hF c_5
      exact q_Model_whom_18 K _ _ _ _ _  hw (lv_sub hl [0] rfl) hF
end S_Model_whom
noncomputable abbrev F_Model_whom := F_Model_whom_0
theorem c_Model_whom {l : Launch} {D : va_G} {cA : Nat → ClassId} {ad : Nat → Nat} {s0 τ : St} {r : Int32} {v1 : Int32} {v2 : Int32}  (hF : F_Model_whom s0 v1 v2 = (some (r, τ))) : MI l D cA ad shM y_Model_whom (wT y_Model_whom b_Model_whom 6 (some .int)) rm_Model_whom [.ref (ad 0), .int v1, .int v2] s0 r τ := fun sz => m_start (Qc := fun A => QcI D cA ad shM A r τ) (by decide +kernel) w_1354 (Nat.le_of_ble_eq_true rfl) (fun p e s m below meth c ls K hl hw => q_Model_whom_0 K _ _ _ _ _ _  hw hl hF)

/-! Model.laws(III)I -/
abbrev b_Model_laws : ByteArray := prog_13_method_65_code
def y_Model_laws : MethodName := ⟨R_Model, "laws", "(III)I"⟩
theorem a_Model_laws : y_Model_laws.cls = R_Model ∧ y_Model_laws.cls ≠ "java/lang/invoke/MethodHandle" ∧ y_Model_laws.cls ≠ "java/lang/invoke/VarHandle" ∧ (parseMethodDescriptor y_Model_laws.desc).map (fun d => d.parameters.length) = some 3 := by decide +kernel
abbrev rm_Model_laws : Room := { frames := 8, cells := 0, slots := 0, locals := 200 }
theorem w_1358 : Cond.code y_Model_laws b_Model_laws 8 (some .int) ∈ TB := tb_in 1358 (by decide +kernel) (by decide +kernel)
theorem d_Model_laws_0 : decode b_Model_laws 0 = .ok (.aload_n 0, 1) := by decide +kernel
theorem d_Model_laws_1 : decode b_Model_laws 1 = .ok (.iload_n 1, 1) := by decide +kernel
theorem d_Model_laws_2 : decode b_Model_laws 2 = .ok (.iload_n 2, 1) := by decide +kernel
theorem d_Model_laws_3 : decode b_Model_laws 3 = .ok (.iload_n 3, 1) := by decide +kernel
theorem d_Model_laws_4 : decode b_Model_laws 4 = .ok (.invokevirtual 269, 3) := by decide +kernel
theorem d_Model_laws_7 : decode b_Model_laws 7 = .ok (.istore 4, 2) := by decide +kernel
theorem d_Model_laws_9 : decode b_Model_laws 9 = .ok (.iload 4, 2) := by decide +kernel
theorem d_Model_laws_11 : decode b_Model_laws 11 = .ok (.ifCond .eq 6, 3) := by decide +kernel
theorem d_Model_laws_14 : decode b_Model_laws 14 = .ok (.iload 4, 2) := by decide +kernel
theorem d_Model_laws_16 : decode b_Model_laws 16 = .ok (.ireturn, 1) := by decide +kernel
theorem d_Model_laws_17 : decode b_Model_laws 17 = .ok (.aload_n 0, 1) := by decide +kernel
theorem d_Model_laws_18 : decode b_Model_laws 18 = .ok (.getfield 93, 3) := by decide +kernel
theorem d_Model_laws_21 : decode b_Model_laws 21 = .ok (.istore 5, 2) := by decide +kernel
theorem d_Model_laws_23 : decode b_Model_laws 23 = .ok (.iconst 0, 1) := by decide +kernel
theorem d_Model_laws_24 : decode b_Model_laws 24 = .ok (.istore 6, 2) := by decide +kernel
theorem d_Model_laws_26 : decode b_Model_laws 26 = .ok (.iconst 0, 1) := by decide +kernel
theorem d_Model_laws_27 : decode b_Model_laws 27 = .ok (.istore 7, 2) := by decide +kernel
theorem d_Model_laws_29 : decode b_Model_laws 29 = .ok (.iload 7, 2) := by decide +kernel
theorem d_Model_laws_31 : decode b_Model_laws 31 = .ok (.aload_n 0, 1) := by decide +kernel
theorem d_Model_laws_32 : decode b_Model_laws 32 = .ok (.getfield 90, 3) := by decide +kernel
theorem d_Model_laws_35 : decode b_Model_laws 35 = .ok (.if_icmp .ge 39, 3) := by decide +kernel
theorem d_Model_laws_38 : decode b_Model_laws 38 = .ok (.aload_n 0, 1) := by decide +kernel
theorem d_Model_laws_39 : decode b_Model_laws 39 = .ok (.iload 7, 2) := by decide +kernel
theorem d_Model_laws_41 : decode b_Model_laws 41 = .ok (.putfield 93, 3) := by decide +kernel
theorem d_Model_laws_44 : decode b_Model_laws 44 = .ok (.iload 6, 2) := by decide +kernel
theorem d_Model_laws_46 : decode b_Model_laws 46 = .ok (.aload_n 0, 1) := by decide +kernel
theorem d_Model_laws_47 : decode b_Model_laws 47 = .ok (.iload_n 1, 1) := by decide +kernel
theorem d_Model_laws_48 : decode b_Model_laws 48 = .ok (.iload_n 2, 1) := by decide +kernel
theorem d_Model_laws_49 : decode b_Model_laws 49 = .ok (.iload_n 3, 1) := by decide +kernel
theorem d_Model_laws_50 : decode b_Model_laws 50 = .ok (.invokevirtual 272, 3) := by decide +kernel
theorem d_Model_laws_53 : decode b_Model_laws 53 = .ok (.iconst (-1), 1) := by decide +kernel
theorem d_Model_laws_54 : decode b_Model_laws 54 = .ok (.if_icmp .ne 10, 3) := by decide +kernel
theorem d_Model_laws_57 : decode b_Model_laws 57 = .ok (.iconst 1, 1) := by decide +kernel
theorem d_Model_laws_58 : decode b_Model_laws 58 = .ok (.iload 7, 2) := by decide +kernel
theorem d_Model_laws_60 : decode b_Model_laws 60 = .ok (.ishl, 1) := by decide +kernel
theorem d_Model_laws_61 : decode b_Model_laws 61 = .ok (.goto 4, 3) := by decide +kernel
theorem d_Model_laws_64 : decode b_Model_laws 64 = .ok (.iconst 0, 1) := by decide +kernel
theorem d_Model_laws_65 : decode b_Model_laws 65 = .ok (.ior, 1) := by decide +kernel
theorem d_Model_laws_66 : decode b_Model_laws 66 = .ok (.istore 6, 2) := by decide +kernel
theorem d_Model_laws_68 : decode b_Model_laws 68 = .ok (.iinc 7 1, 3) := by decide +kernel
theorem d_Model_laws_71 : decode b_Model_laws 71 = .ok (.goto (-42), 3) := by decide +kernel
theorem d_Model_laws_74 : decode b_Model_laws 74 = .ok (.aload_n 0, 1) := by decide +kernel
theorem d_Model_laws_75 : decode b_Model_laws 75 = .ok (.iload 5, 2) := by decide +kernel
theorem d_Model_laws_77 : decode b_Model_laws 77 = .ok (.putfield 93, 3) := by decide +kernel
theorem d_Model_laws_80 : decode b_Model_laws 80 = .ok (.iload 6, 2) := by decide +kernel
theorem d_Model_laws_82 : decode b_Model_laws 82 = .ok (.ireturn, 1) := by decide +kernel
section S_Model_laws
variable {p : Program} {l : Launch} {e : Env} {s : State} {m : MethodId} {args : Array Value} {below : List Frame} {meth : Method} {c : Code} {D : va_G} {cA : Nat → ClassId} {ad : Nat → Nat} {nC : Nat} {A : Nat → Prop} {r : Int32} {τ : St}
noncomputable def F_Model_laws_65 (k17 : (St → Int32 → Int32 → Int32 → Int32 → Int32 → Int32 → Option (Int32 × St))) (s0 : St) (v1 : Int32) (v2 : Int32) (v3 : Int32) (v5 : Int32) (v7 : Int32) (t0 : Int32) (t1 : Int32) : Option (Int32 × St) := (k17 s0 v1 v2 v3 v5 (t0 ||| t1) (v7 + 1))
set_option maxHeartbeats 4000000 in
set_option maxRecDepth 100000 in
theorem q_Model_laws_65 (K : Fx p s m args meth c b_Model_laws 8 R_Model (some .int)) (k17 : (St → Int32 → Int32 → Int32 → Int32 → Int32 → Int32 → Option (Int32 × St))) (hk17 : ∀ (H : Heap) (locs : List Loc) (ls : Array Slot) (s0 : St) (v1 : Int32) (v2 : Int32) (v3 : Int32) (v5 : Int32) (v6 : Int32) (v7 : Int32), Wh D cA ad shM A s s0 H locs → lv_has ls 8 [(0, .ref (ad 0)), (1, .int v1), (2, .int v2), (3, .int v3), (5, .int v5), (6, .int v6), (7, .int v7)] → k17 s0 v1 v2 v3 v5 v6 v7 = (some (r, τ)) → W p l e rm_Model_laws s m args below meth c H locs 0 0 (MQ below (QcI D cA ad shM A r τ) args s 0 0 A) (F0 m 29 ls [])) : ∀ (H : Heap) (locs : List Loc) (ls : Array Slot) (s0 : St) (v1 : Int32) (v2 : Int32) (v3 : Int32) (v5 : Int32) (v7 : Int32) (t0 : Int32) (t1 : Int32), Wh D cA ad shM A s s0 H locs → lv_has ls 8 [(0, .ref (ad 0)), (1, .int v1), (2, .int v2), (3, .int v3), (5, .int v5), (7, .int v7)] → F_Model_laws_65 k17 s0 v1 v2 v3 v5 v7 t0 t1 = (some (r, τ)) → W p l e rm_Model_laws s m args below meth c H locs 0 0 (MQ below (QcI D cA ad shM A r τ) args s 0 0 A) (F0 m 65 ls [.int t1, .int t0]) := by
  have hx := K.1.1; have hb := K.1.2.1
  intro H locs ls s0 v1 v2 v3 v5 v7 t0 t1 hw hl hF
  unfold F_Model_laws_65 at hF
  refine lv_ior hx hb d_Model_laws_65 ?_
  refine lv_istore (lv' := [(6, .int (t0 ||| t1)), (0, .ref (ad 0)), (1, .int v1), (2, .int v2), (3, .int v3), (5, .int v5), (7, .int v7)]) hx hb d_Model_laws_66 hl (by decide) rfl (fun ls hl => ?_)
  refine lv_iinc (v := (v7 + 1)) (lv' := [(7, .int (v7 + 1)), (6, .int (t0 ||| t1)), (0, .ref (ad 0)), (1, .int v1), (2, .int v2), (3, .int v3), (5, .int v5)]) hx hb d_Model_laws_68 hl (k := 6) rfl rfl (by decide) rfl (fun ls hl => ?_)
  refine lv_goto (tgt := 29) hx hb d_Model_laws_71 (by decide) ?_
  exact hk17 _ _ _ _ _ _ _ _ _ _  hw (lv_sub hl [2, 3, 4, 5, 6, 1, 0] rfl) hF
noncomputable def F_Model_laws_29 : Nat → St → Int32 → Int32 → Int32 → Int32 → Int32 → Int32 → Option (Int32 × St)
  | 0, _, _, _, _, _, _, _ => none
  | n + 1, s0, v1, v2, v3, v5, v6, v7 => (if (s0.1 0 10) ≤ v7 then (lt (up1 s0 0 11 v5) (fun s_4 => (some (v6, s_4)))) else (lt (up1 s0 0 11 v7) (fun s_5 => (ob2 (F_Model_unlikeNow s_5 v1 v2 v3) (fun r_6 s_7 => (if ¬ r_6 = (-1 : Int32) then (F_Model_laws_65 (fun z0 zv1 zv2 zv3 zv5 zv6 zv7 => F_Model_laws_29 n z0 zv1 zv2 zv3 zv5 zv6 zv7) s_7 v1 v2 v3 v5 v7 v6 (0 : Int32)) else (F_Model_laws_65 (fun z0 zv1 zv2 zv3 zv5 zv6 zv7 => F_Model_laws_29 n z0 zv1 zv2 zv3 zv5 zv6 zv7) s_7 v1 v2 v3 v5 v7 v6 (jshl (1 : Int32) v7))))))))
set_option maxHeartbeats 4000000 in
set_option maxRecDepth 100000 in
theorem q_Model_laws_29 (K : Fx p s m args meth c b_Model_laws 8 R_Model (some .int))  : ∀ (n : Nat), ∀ (H : Heap) (locs : List Loc) (ls : Array Slot) (s0 : St) (v1 : Int32) (v2 : Int32) (v3 : Int32) (v5 : Int32) (v6 : Int32) (v7 : Int32), Wh D cA ad shM A s s0 H locs → lv_has ls 8 [(0, .ref (ad 0)), (1, .int v1), (2, .int v2), (3, .int v3), (5, .int v5), (6, .int v6), (7, .int v7)] → F_Model_laws_29 n s0 v1 v2 v3 v5 v6 v7 = (some (r, τ)) → W p l e rm_Model_laws s m args below meth c H locs 0 0 (MQ below (QcI D cA ad shM A r τ) args s 0 0 A) (F0 m 29 ls []) := by
  have hx := K.1.1; have hb := K.1.2.1
  intro n
  induction n with
  | zero =>
    intro H locs ls s0 v1 v2 v3 v5 v6 v7 hw hl hF
    exact absurd hF (by rw [F_Model_laws_29]; exact nofun)
  | succ n ih =>
    intro H locs ls s0 v1 v2 v3 v5 v6 v7 hw hl hF
    rw [F_Model_laws_29] at hF
    refine lv_iload hx hb d_Model_laws_29 (lv_at hl 6 rfl) ?_
    refine lv_aload_n hx hb d_Model_laws_31 rfl (lv_at hl 0 rfl) ?_
    refine r_get (v := .int (s0.1 0 10)) K hw i_Model sh_Model rfl 10 (by decide) w_1035 rfl rfl rfl d_Model_laws_32 ?_
    refine lv_icmp_ge (tgt := 74) hx hb d_Model_laws_35 (by decide) (fun c_3 => ?_) (fun c_3 => ?_)
    · replace hF := ifT hF c_3
      refine lv_aload_n hx hb d_Model_laws_74 rfl (lv_at hl 0 rfl) ?_
      refine lv_iload hx hb d_Model_laws_75 (lv_at hl 4 rfl) ?_
      refine r_putI K hw i_Model t_Model t_Model_ok n_Model sh_Model rfl 11 (by decide) w_1036 rfl rfl rfl rfl rfl d_Model_laws_77 (fun s_4 f_s_4 H locs hw => ?_)
      replace hF := ltN hF f_s_4
      refine lv_iload hx hb d_Model_laws_80 (lv_at hl 5 rfl) ?_
      obtain ⟨hF, hG⟩ := sE2 hF
      subst hF
      subst hG
      exact r_iret K hw d_Model_laws_82
    · replace hF := ifF hF c_3
      refine lv_aload_n hx hb d_Model_laws_38 rfl (lv_at hl 0 rfl) ?_
      refine lv_iload hx hb d_Model_laws_39 (lv_at hl 6 rfl) ?_
      refine r_putI K hw i_Model t_Model t_Model_ok n_Model sh_Model rfl 11 (by decide) w_1036 rfl rfl rfl rfl rfl d_Model_laws_41 (fun s_5 f_s_5 H locs hw => ?_)
      replace hF := ltN hF f_s_5
      refine lv_iload hx hb d_Model_laws_44 (lv_at hl 5 rfl) ?_
      refine lv_aload_n hx hb d_Model_laws_46 rfl (lv_at hl 0 rfl) ?_
      refine lv_iload_n hx hb d_Model_laws_47 rfl (lv_at hl 1 rfl) ?_
      refine lv_iload_n hx hb d_Model_laws_48 rfl (lv_at hl 2 rfl) ?_
      refine lv_iload_n hx hb d_Model_laws_49 rfl (lv_at hl 3 rfl) ?_
      obtain ⟨r_6, s_7, h_s_7, hF⟩ := ob2E hF
      refine r_callVI (As := [.int v1, .int v2, .int v3]) (rest := [.int v6]) K hw hl.1 (c_Model_unlikeNow (l := l) (D := D) (cA := cA) (ad := ad) (s0 := s_5)   h_s_7) sh_Model rfl (tb_gV w_1339 w_1341 w_59 w_80 w_1342) a_Model_unlikeNow ⟨rfl, rfl, Nat.le_of_ble_eq_true rfl, Nat.le_of_ble_eq_true rfl⟩ rfl rfl (Nat.le_of_ble_eq_true rfl) d_Model_laws_50 (fun H locs hw => ?_)
      refine lv_iconst (v := -1) hx hb d_Model_laws_53 (by decide) ?_
      refine lv_icmp_ne (tgt := 64) hx hb d_Model_laws_54 (by decide) (fun c_8 => ?_) (fun c_8 => ?_)
      · replace hF := ifT hF c_8
        refine lv_iconst (v := 0) hx hb d_Model_laws_64 (by decide) ?_
        exact q_Model_laws_65 K (fun z0 zv1 zv2 zv3 zv5 zv6 zv7 => F_Model_laws_29 n z0 zv1 zv2 zv3 zv5 zv6 zv7) ih _ _ _ _ _ _ _ _ _ _ _  hw (lv_sub hl [0, 1, 2, 3, 4, 6] rfl) hF
      · replace hF := ifN hF c_8
        refine lv_iconst (v := 1) hx hb d_Model_laws_57 (by decide) ?_
        refine lv_iload hx hb d_Model_laws_58 (lv_at hl 6 rfl) ?_
        refine lv_ishl hx hb d_Model_laws_60 ?_
        refine lv_goto (tgt := 65) hx hb d_Model_laws_61 (by decide) ?_
        exact q_Model_laws_65 K (fun z0 zv1 zv2 zv3 zv5 zv6 zv7 => F_Model_laws_29 n z0 zv1 zv2 zv3 zv5 zv6 zv7) ih _ _ _ _ _ _ _ _ _ _ _  hw (lv_sub hl [0, 1, 2, 3, 4, 6] rfl) hF
noncomputable def F_Model_laws_0 (s0 : St) (v1 : Int32) (v2 : Int32) (v3 : Int32) : Option (Int32 × St) := (ob1 (F_Model_toldWrong s0 v1 v2 v3) (fun r_1 => (if r_1 = 0 then (F_Model_laws_29 FU s0 v1 v2 v3 (s0.1 0 11) (0 : Int32) (0 : Int32)) else (some (r_1, s0)))))
set_option maxHeartbeats 4000000 in
set_option maxRecDepth 100000 in
theorem q_Model_laws_0 (K : Fx p s m args meth c b_Model_laws 8 R_Model (some .int))  : ∀ (H : Heap) (locs : List Loc) (ls : Array Slot) (s0 : St) (v1 : Int32) (v2 : Int32) (v3 : Int32), Wh D cA ad shM A s s0 H locs → lv_has ls 8 [(0, .ref (ad 0)), (1, .int v1), (2, .int v2), (3, .int v3)] → F_Model_laws_0 s0 v1 v2 v3 = (some (r, τ)) → W p l e rm_Model_laws s m args below meth c H locs 0 0 (MQ below (QcI D cA ad shM A r τ) args s 0 0 A) (F0 m 0 ls []) := by
  have hx := K.1.1; have hb := K.1.2.1
  intro H locs ls s0 v1 v2 v3 hw hl hF
  unfold F_Model_laws_0 at hF
  refine lv_aload_n hx hb d_Model_laws_0 rfl (lv_at hl 0 rfl) ?_
  refine lv_iload_n hx hb d_Model_laws_1 rfl (lv_at hl 1 rfl) ?_
  refine lv_iload_n hx hb d_Model_laws_2 rfl (lv_at hl 2 rfl) ?_
  refine lv_iload_n hx hb d_Model_laws_3 rfl (lv_at hl 3 rfl) ?_
  obtain ⟨r_1, h_r_1, hF⟩ := ob1E hF
  refine r_callVI (As := [.int v1, .int v2, .int v3]) (rest := []) K hw hl.1 (c_Model_toldWrong (l := l) (D := D) (cA := cA) (ad := ad) (s0 := s0)   h_r_1) sh_Model rfl (tb_gV w_1331 w_1333 w_57 w_80 w_1334) a_Model_toldWrong ⟨rfl, rfl, Nat.le_of_ble_eq_true rfl, Nat.le_of_ble_eq_true rfl⟩ rfl rfl (Nat.le_of_ble_eq_true rfl) d_Model_laws_4 (fun H locs hw => ?_)
  refine lv_istore (lv' := [(4, .int r_1), (0, .ref (ad 0)), (1, .int v1), (2, .int v2), (3, .int v3)]) hx hb d_Model_laws_7 hl (by decide) rfl (fun ls hl => ?_)
  refine lv_iload hx hb d_Model_laws_9 (lv_at hl 0 rfl) ?_
  refine lv_if_eq (tgt := 17) hx hb d_Model_laws_11 (by decide) (fun c_2 => ?_) (fun c_2 => ?_)
  · replace hF := ifT hF c_2
    refine lv_aload_n hx hb d_Model_laws_17 rfl (lv_at hl 1 rfl) ?_
    refine r_get (v := .int (s0.1 0 11)) K hw i_Model sh_Model rfl 11 (by decide) w_1036 rfl rfl rfl d_Model_laws_18 ?_
    refine lv_istore (lv' := [(5, .int (s0.1 0 11)), (4, .int r_1), (0, .ref (ad 0)), (1, .int v1), (2, .int v2), (3, .int v3)]) hx hb d_Model_laws_21 hl (by decide) rfl (fun ls hl => ?_)
    refine lv_iconst (v := 0) hx hb d_Model_laws_23 (by decide) ?_
    refine lv_istore (lv' := [(6, .int (0 : Int32)), (5, .int (s0.1 0 11)), (4, .int r_1), (0, .ref (ad 0)), (1, .int v1), (2, .int v2), (3, .int v3)]) hx hb d_Model_laws_24 hl (by decide) rfl (fun ls hl => ?_)
    refine lv_iconst (v := 0) hx hb d_Model_laws_26 (by decide) ?_
    refine lv_istore (lv' := [(7, .int (0 : Int32)), (6, .int (0 : Int32)), (5, .int (s0.1 0 11)), (4, .int r_1), (0, .ref (ad 0)), (1, .int v1), (2, .int v2), (3, .int v3)]) hx hb d_Model_laws_27 hl (by decide) rfl (fun ls hl => ?_)
    exact q_Model_laws_29 K FU _ _ _ _ _ _ _ _ _ _  hw (lv_sub hl [4, 5, 6, 7, 2, 1, 0] rfl) hF
  · replace hF := ifF hF c_2
    refine lv_iload hx hb d_Model_laws_14 (lv_at hl 0 rfl) ?_
    obtain ⟨hF, hG⟩ := sE2 hF
    subst hF
    subst hG
    exact r_iret K hw d_Model_laws_16
end S_Model_laws
noncomputable abbrev F_Model_laws := F_Model_laws_0
theorem c_Model_laws {l : Launch} {D : va_G} {cA : Nat → ClassId} {ad : Nat → Nat} {s0 τ : St} {r : Int32} {v1 : Int32} {v2 : Int32} {v3 : Int32}  (hF : F_Model_laws s0 v1 v2 v3 = (some (r, τ))) : MI l D cA ad shM y_Model_laws (wT y_Model_laws b_Model_laws 8 (some .int)) rm_Model_laws [.ref (ad 0), .int v1, .int v2, .int v3] s0 r τ := fun sz => m_start (Qc := fun A => QcI D cA ad shM A r τ) (by decide +kernel) w_1358 (Nat.le_of_ble_eq_true rfl) (fun p e s m below meth c ls K hl hw => q_Model_laws_0 K _ _ _ _ _ _ _  hw hl hF)

/-! Model.film(III)I -/
abbrev b_Model_film : ByteArray := prog_13_method_66_code
def y_Model_film : MethodName := ⟨R_Model, "film", "(III)I"⟩
theorem a_Model_film : y_Model_film.cls = R_Model ∧ y_Model_film.cls ≠ "java/lang/invoke/MethodHandle" ∧ y_Model_film.cls ≠ "java/lang/invoke/VarHandle" ∧ (parseMethodDescriptor y_Model_film.desc).map (fun d => d.parameters.length) = some 3 := by decide +kernel
abbrev rm_Model_film : Room := { frames := 6, cells := 0, slots := 0, locals := 153 }
theorem w_1362 : Cond.code y_Model_film b_Model_film 5 (some .int) ∈ TB := tb_in 1362 (by decide +kernel) (by decide +kernel)
theorem d_Model_film_0 : decode b_Model_film 0 = .ok (.iload_n 1, 1) := by decide +kernel
theorem d_Model_film_1 : decode b_Model_film 1 = .ok (.iconst 0, 1) := by decide +kernel
theorem d_Model_film_2 : decode b_Model_film 2 = .ok (.iconst 3, 1) := by decide +kernel
theorem d_Model_film_3 : decode b_Model_film 3 = .ok (.invokestatic 78, 3) := by decide +kernel
theorem d_Model_film_6 : decode b_Model_film 6 = .ok (.ifCond .ne 6, 3) := by decide +kernel
theorem d_Model_film_9 : decode b_Model_film 9 = .ok (.bipush (-2), 2) := by decide +kernel
theorem d_Model_film_11 : decode b_Model_film 11 = .ok (.ireturn, 1) := by decide +kernel
theorem d_Model_film_12 : decode b_Model_film 12 = .ok (.aload_n 0, 1) := by decide +kernel
theorem d_Model_film_13 : decode b_Model_film 13 = .ok (.iload_n 2, 1) := by decide +kernel
theorem d_Model_film_14 : decode b_Model_film 14 = .ok (.invokevirtual 220, 3) := by decide +kernel
theorem d_Model_film_17 : decode b_Model_film 17 = .ok (.ifCond .ne 6, 3) := by decide +kernel
theorem d_Model_film_20 : decode b_Model_film 20 = .ok (.bipush (-5), 2) := by decide +kernel
theorem d_Model_film_22 : decode b_Model_film 22 = .ok (.ireturn, 1) := by decide +kernel
theorem d_Model_film_23 : decode b_Model_film 23 = .ok (.iload_n 3, 1) := by decide +kernel
theorem d_Model_film_24 : decode b_Model_film 24 = .ok (.iconst 0, 1) := by decide +kernel
theorem d_Model_film_25 : decode b_Model_film 25 = .ok (.bipush 8, 2) := by decide +kernel
theorem d_Model_film_27 : decode b_Model_film 27 = .ok (.invokestatic 78, 3) := by decide +kernel
theorem d_Model_film_30 : decode b_Model_film 30 = .ok (.ifCond .ne 6, 3) := by decide +kernel
theorem d_Model_film_33 : decode b_Model_film 33 = .ok (.bipush (-7), 2) := by decide +kernel
theorem d_Model_film_35 : decode b_Model_film 35 = .ok (.ireturn, 1) := by decide +kernel
theorem d_Model_film_36 : decode b_Model_film 36 = .ok (.aload_n 0, 1) := by decide +kernel
theorem d_Model_film_37 : decode b_Model_film 37 = .ok (.getfield 40, 3) := by decide +kernel
theorem d_Model_film_40 : decode b_Model_film 40 = .ok (.iload_n 1, 1) := by decide +kernel
theorem d_Model_film_41 : decode b_Model_film 41 = .ok (.iconst 2, 1) := by decide +kernel
theorem d_Model_film_42 : decode b_Model_film 42 = .ok (.iastore, 1) := by decide +kernel
theorem d_Model_film_43 : decode b_Model_film 43 = .ok (.aload_n 0, 1) := by decide +kernel
theorem d_Model_film_44 : decode b_Model_film 44 = .ok (.getfield 43, 3) := by decide +kernel
theorem d_Model_film_47 : decode b_Model_film 47 = .ok (.iload_n 1, 1) := by decide +kernel
theorem d_Model_film_48 : decode b_Model_film 48 = .ok (.iload_n 3, 1) := by decide +kernel
theorem d_Model_film_49 : decode b_Model_film 49 = .ok (.iastore, 1) := by decide +kernel
theorem d_Model_film_50 : decode b_Model_film 50 = .ok (.aload_n 0, 1) := by decide +kernel
theorem d_Model_film_51 : decode b_Model_film 51 = .ok (.iload_n 2, 1) := by decide +kernel
theorem d_Model_film_52 : decode b_Model_film 52 = .ok (.bipush 10, 2) := by decide +kernel
theorem d_Model_film_54 : decode b_Model_film 54 = .ok (.idiv, 1) := by decide +kernel
theorem d_Model_film_55 : decode b_Model_film 55 = .ok (.iload_n 2, 1) := by decide +kernel
theorem d_Model_film_56 : decode b_Model_film 56 = .ok (.bipush 10, 2) := by decide +kernel
theorem d_Model_film_58 : decode b_Model_film 58 = .ok (.irem, 1) := by decide +kernel
theorem d_Model_film_59 : decode b_Model_film 59 = .ok (.iconst 0, 1) := by decide +kernel
theorem d_Model_film_60 : decode b_Model_film 60 = .ok (.invokevirtual 210, 3) := by decide +kernel
theorem d_Model_film_63 : decode b_Model_film 63 = .ok (.iconst 0, 1) := by decide +kernel
theorem d_Model_film_64 : decode b_Model_film 64 = .ok (.istore 4, 2) := by decide +kernel
theorem d_Model_film_66 : decode b_Model_film 66 = .ok (.iload 4, 2) := by decide +kernel
theorem d_Model_film_68 : decode b_Model_film 68 = .ok (.bipush 40, 2) := by decide +kernel
theorem d_Model_film_70 : decode b_Model_film 70 = .ok (.if_icmp .ge 59, 3) := by decide +kernel
theorem d_Model_film_73 : decode b_Model_film 73 = .ok (.iload 4, 2) := by decide +kernel
theorem d_Model_film_75 : decode b_Model_film 75 = .ok (.iload_n 3, 1) := by decide +kernel
theorem d_Model_film_76 : decode b_Model_film 76 = .ok (.if_icmp .ge 21, 3) := by decide +kernel
theorem d_Model_film_79 : decode b_Model_film 79 = .ok (.aload_n 0, 1) := by decide +kernel
theorem d_Model_film_80 : decode b_Model_film 80 = .ok (.iload_n 2, 1) := by decide +kernel
theorem d_Model_film_81 : decode b_Model_film 81 = .ok (.bipush 10, 2) := by decide +kernel
theorem d_Model_film_83 : decode b_Model_film 83 = .ok (.idiv, 1) := by decide +kernel
theorem d_Model_film_84 : decode b_Model_film 84 = .ok (.iload_n 2, 1) := by decide +kernel
theorem d_Model_film_85 : decode b_Model_film 85 = .ok (.bipush 10, 2) := by decide +kernel
theorem d_Model_film_87 : decode b_Model_film 87 = .ok (.irem, 1) := by decide +kernel
theorem d_Model_film_88 : decode b_Model_film 88 = .ok (.iconst 5, 1) := by decide +kernel
theorem d_Model_film_89 : decode b_Model_film 89 = .ok (.iload 4, 2) := by decide +kernel
theorem d_Model_film_91 : decode b_Model_film 91 = .ok (.imul, 1) := by decide +kernel
theorem d_Model_film_92 : decode b_Model_film 92 = .ok (.iconst 5, 1) := by decide +kernel
theorem d_Model_film_93 : decode b_Model_film 93 = .ok (.iadd, 1) := by decide +kernel
theorem d_Model_film_94 : decode b_Model_film 94 = .ok (.invokevirtual 213, 3) := by decide +kernel
theorem d_Model_film_97 : decode b_Model_film 97 = .ok (.aload_n 0, 1) := by decide +kernel
theorem d_Model_film_98 : decode b_Model_film 98 = .ok (.getfield 46, 3) := by decide +kernel
theorem d_Model_film_101 : decode b_Model_film 101 = .ok (.bipush 40, 2) := by decide +kernel
theorem d_Model_film_103 : decode b_Model_film 103 = .ok (.iload_n 1, 1) := by decide +kernel
theorem d_Model_film_104 : decode b_Model_film 104 = .ok (.imul, 1) := by decide +kernel
theorem d_Model_film_105 : decode b_Model_film 105 = .ok (.iload 4, 2) := by decide +kernel
theorem d_Model_film_107 : decode b_Model_film 107 = .ok (.iadd, 1) := by decide +kernel
theorem d_Model_film_108 : decode b_Model_film 108 = .ok (.iload 4, 2) := by decide +kernel
theorem d_Model_film_110 : decode b_Model_film 110 = .ok (.iload_n 3, 1) := by decide +kernel
theorem d_Model_film_111 : decode b_Model_film 111 = .ok (.if_icmp .ge 10, 3) := by decide +kernel
theorem d_Model_film_114 : decode b_Model_film 114 = .ok (.aload_n 0, 1) := by decide +kernel
theorem d_Model_film_115 : decode b_Model_film 115 = .ok (.getfield 187, 3) := by decide +kernel
theorem d_Model_film_118 : decode b_Model_film 118 = .ok (.goto 4, 3) := by decide +kernel
theorem d_Model_film_121 : decode b_Model_film 121 = .ok (.iconst 0, 1) := by decide +kernel
theorem d_Model_film_122 : decode b_Model_film 122 = .ok (.iastore, 1) := by decide +kernel
theorem d_Model_film_123 : decode b_Model_film 123 = .ok (.iinc 4 1, 3) := by decide +kernel
theorem d_Model_film_126 : decode b_Model_film 126 = .ok (.goto (-60), 3) := by decide +kernel
theorem d_Model_film_129 : decode b_Model_film 129 = .ok (.iload_n 3, 1) := by decide +kernel
theorem d_Model_film_130 : decode b_Model_film 130 = .ok (.ireturn, 1) := by decide +kernel
section S_Model_film
variable {p : Program} {l : Launch} {e : Env} {s : State} {m : MethodId} {args : Array Value} {below : List Frame} {meth : Method} {c : Code} {D : va_G} {cA : Nat → ClassId} {ad : Nat → Nat} {nC : Nat} {A : Nat → Prop} {r : Int32} {τ : St}
noncomputable def F_Model_film_122 (k41 : (St → Int32 → Int32 → Int32 → Int32 → Option (Int32 × St))) (s0 : St) (v1 : Int32) (v2 : Int32) (v3 : Int32) (v4 : Int32) (t1 : Int32) (t2 : Int32) : Option (Int32 × St) := (if inB t1 160 = true then (lt (up1 s0 13 t1.toNatClampNeg t2) (fun s_14 => (k41 s_14 v1 v2 v3 (v4 + 1)))) else none)
set_option maxHeartbeats 4000000 in
set_option maxRecDepth 100000 in
theorem q_Model_film_122 (K : Fx p s m args meth c b_Model_film 5 R_Model (some .int)) (k41 : (St → Int32 → Int32 → Int32 → Int32 → Option (Int32 × St))) (hk41 : ∀ (H : Heap) (locs : List Loc) (ls : Array Slot) (s0 : St) (v1 : Int32) (v2 : Int32) (v3 : Int32) (v4 : Int32), Wh D cA ad shM A s s0 H locs → lv_has ls 5 [(0, .ref (ad 0)), (1, .int v1), (2, .int v2), (3, .int v3), (4, .int v4)] → k41 s0 v1 v2 v3 v4 = (some (r, τ)) → W p l e rm_Model_film s m args below meth c H locs 0 0 (MQ below (QcI D cA ad shM A r τ) args s 0 0 A) (F0 m 66 ls [])) : ∀ (H : Heap) (locs : List Loc) (ls : Array Slot) (s0 : St) (v1 : Int32) (v2 : Int32) (v3 : Int32) (v4 : Int32) (t1 : Int32) (t2 : Int32), Wh D cA ad shM A s s0 H locs → lv_has ls 5 [(0, .ref (ad 0)), (1, .int v1), (2, .int v2), (3, .int v3), (4, .int v4)] → F_Model_film_122 k41 s0 v1 v2 v3 v4 t1 t2 = (some (r, τ)) → W p l e rm_Model_film s m args below meth c H locs 0 0 (MQ below (QcI D cA ad shM A r τ) args s 0 0 A) (F0 m 122 ls [.int t2, .int t1, .ref (ad 13)]) := by
  have hx := K.1.1; have hb := K.1.2.1
  intro H locs ls s0 v1 v2 v3 v4 t1 t2 hw hl hF
  unfold F_Model_film_122 at hF
  obtain ⟨g_13, hF⟩ := ifG hF
  refine r_iast (k := t1.toNatClampNeg) K hw (show shM[13]? = some (.inr (.inl 160)) from rfl) rfl (inB_vp g_13) d_Model_film_122 (fun s_14 f_s_14 H locs hw => ?_)
  replace hF := ltN hF f_s_14
  refine lv_iinc (v := (v4 + 1)) (lv' := [(4, .int (v4 + 1)), (0, .ref (ad 0)), (1, .int v1), (2, .int v2), (3, .int v3)]) hx hb d_Model_film_123 hl (k := 4) rfl rfl (by decide) rfl (fun ls hl => ?_)
  refine lv_goto (tgt := 66) hx hb d_Model_film_126 (by decide) ?_
  exact hk41 _ _ _ _ _ _ _ _  hw (lv_sub hl [1, 2, 3, 4, 0] rfl) hF
noncomputable def F_Model_film_97 (k41 : (St → Int32 → Int32 → Int32 → Int32 → Option (Int32 × St))) (s0 : St) (v1 : Int32) (v2 : Int32) (v3 : Int32) (v4 : Int32) : Option (Int32 × St) := (if v3 ≤ v4 then (F_Model_film_122 k41 s0 v1 v2 v3 v4 (((40 : Int32) * v1) + v4) (0 : Int32)) else (F_Model_film_122 k41 s0 v1 v2 v3 v4 (((40 : Int32) * v1) + v4) (s0.1 0 32)))
set_option maxHeartbeats 4000000 in
set_option maxRecDepth 100000 in
theorem q_Model_film_97 (K : Fx p s m args meth c b_Model_film 5 R_Model (some .int)) (k41 : (St → Int32 → Int32 → Int32 → Int32 → Option (Int32 × St))) (hk41 : ∀ (H : Heap) (locs : List Loc) (ls : Array Slot) (s0 : St) (v1 : Int32) (v2 : Int32) (v3 : Int32) (v4 : Int32), Wh D cA ad shM A s s0 H locs → lv_has ls 5 [(0, .ref (ad 0)), (1, .int v1), (2, .int v2), (3, .int v3), (4, .int v4)] → k41 s0 v1 v2 v3 v4 = (some (r, τ)) → W p l e rm_Model_film s m args below meth c H locs 0 0 (MQ below (QcI D cA ad shM A r τ) args s 0 0 A) (F0 m 66 ls [])) : ∀ (H : Heap) (locs : List Loc) (ls : Array Slot) (s0 : St) (v1 : Int32) (v2 : Int32) (v3 : Int32) (v4 : Int32), Wh D cA ad shM A s s0 H locs → lv_has ls 5 [(0, .ref (ad 0)), (1, .int v1), (2, .int v2), (3, .int v3), (4, .int v4)] → F_Model_film_97 k41 s0 v1 v2 v3 v4 = (some (r, τ)) → W p l e rm_Model_film s m args below meth c H locs 0 0 (MQ below (QcI D cA ad shM A r τ) args s 0 0 A) (F0 m 97 ls []) := by
  have hx := K.1.1; have hb := K.1.2.1
  intro H locs ls s0 v1 v2 v3 v4 hw hl hF
  unfold F_Model_film_97 at hF
  refine lv_aload_n hx hb d_Model_film_97 rfl (lv_at hl 0 rfl) ?_
  refine r_get (v := .ref (ad 13)) K hw i_Model sh_Model rfl 19 (by decide) w_1044 rfl rfl rfl d_Model_film_98 ?_
  refine lv_bipush (v := 40) hx hb d_Model_film_101 (by decide) ?_
  refine lv_iload_n hx hb d_Model_film_103 rfl (lv_at hl 1 rfl) ?_
  refine lv_imul hx hb d_Model_film_104 ?_
  refine lv_iload hx hb d_Model_film_105 (lv_at hl 4 rfl) ?_
  refine lv_iadd hx hb d_Model_film_107 ?_
  refine lv_iload hx hb d_Model_film_108 (lv_at hl 4 rfl) ?_
  refine lv_iload_n hx hb d_Model_film_110 rfl (lv_at hl 3 rfl) ?_
  refine lv_icmp_ge (tgt := 121) hx hb d_Model_film_111 (by decide) (fun c_12 => ?_) (fun c_12 => ?_)
  · replace hF := ifT hF c_12
    refine lv_iconst (v := 0) hx hb d_Model_film_121 (by decide) ?_
    exact q_Model_film_122 K k41 hk41 _ _ _ _ _ _ _ _ _ _  hw (lv_sub hl [0, 1, 2, 3, 4] rfl) hF
  · replace hF := ifF hF c_12
    refine lv_aload_n hx hb d_Model_film_114 rfl (lv_at hl 0 rfl) ?_
    refine r_get (v := .int (s0.1 0 32)) K hw i_Model sh_Model rfl 32 (by decide) w_1057 rfl rfl rfl d_Model_film_115 ?_
    refine lv_goto (tgt := 122) hx hb d_Model_film_118 (by decide) ?_
    exact q_Model_film_122 K k41 hk41 _ _ _ _ _ _ _ _ _ _  hw (lv_sub hl [0, 1, 2, 3, 4] rfl) hF
noncomputable def F_Model_film_66 : Nat → St → Int32 → Int32 → Int32 → Int32 → Option (Int32 × St)
  | 0, _, _, _, _, _ => none
  | n + 1, s0, v1, v2, v3, v4 => (if (40 : Int32) ≤ v4 then (some (v3, s0)) else (if v3 ≤ v4 then (F_Model_film_97 (fun z0 zv1 zv2 zv3 zv4 => F_Model_film_66 n z0 zv1 zv2 zv3 zv4) s0 v1 v2 v3 v4) else (ob1 (F_Model_goesOn s0 (v2 / (10 : Int32)) (jrem v2 (10 : Int32)) (((5 : Int32) * v4) + (5 : Int32))) (fun s_15 => (F_Model_film_97 (fun z0 zv1 zv2 zv3 zv4 => F_Model_film_66 n z0 zv1 zv2 zv3 zv4) s_15 v1 v2 v3 v4)))))
set_option maxHeartbeats 4000000 in
set_option maxRecDepth 100000 in
theorem q_Model_film_66 (K : Fx p s m args meth c b_Model_film 5 R_Model (some .int))  : ∀ (n : Nat), ∀ (H : Heap) (locs : List Loc) (ls : Array Slot) (s0 : St) (v1 : Int32) (v2 : Int32) (v3 : Int32) (v4 : Int32), Wh D cA ad shM A s s0 H locs → lv_has ls 5 [(0, .ref (ad 0)), (1, .int v1), (2, .int v2), (3, .int v3), (4, .int v4)] → F_Model_film_66 n s0 v1 v2 v3 v4 = (some (r, τ)) → W p l e rm_Model_film s m args below meth c H locs 0 0 (MQ below (QcI D cA ad shM A r τ) args s 0 0 A) (F0 m 66 ls []) := by
  have hx := K.1.1; have hb := K.1.2.1
  intro n
  induction n with
  | zero =>
    intro H locs ls s0 v1 v2 v3 v4 hw hl hF
    exact absurd hF (by rw [F_Model_film_66]; exact nofun)
  | succ n ih =>
    intro H locs ls s0 v1 v2 v3 v4 hw hl hF
    rw [F_Model_film_66] at hF
    refine lv_iload hx hb d_Model_film_66 (lv_at hl 4 rfl) ?_
    refine lv_bipush (v := 40) hx hb d_Model_film_68 (by decide) ?_
    refine lv_icmp_ge (tgt := 129) hx hb d_Model_film_70 (by decide) (fun c_10 => ?_) (fun c_10 => ?_)
    · replace hF := ifT hF c_10
      refine lv_iload_n hx hb d_Model_film_129 rfl (lv_at hl 3 rfl) ?_
      obtain ⟨hF, hG⟩ := sE2 hF
      subst hF
      subst hG
      exact r_iret K hw d_Model_film_130
    · replace hF := ifF hF c_10
      refine lv_iload hx hb d_Model_film_73 (lv_at hl 4 rfl) ?_
      refine lv_iload_n hx hb d_Model_film_75 rfl (lv_at hl 3 rfl) ?_
      refine lv_icmp_ge (tgt := 97) hx hb d_Model_film_76 (by decide) (fun c_11 => ?_) (fun c_11 => ?_)
      · replace hF := ifT hF c_11
        exact q_Model_film_97 K (fun z0 zv1 zv2 zv3 zv4 => F_Model_film_66 n z0 zv1 zv2 zv3 zv4) ih _ _ _ _ _ _ _ _  hw (lv_sub hl [0, 1, 2, 3, 4] rfl) hF
      · replace hF := ifF hF c_11
        refine lv_aload_n hx hb d_Model_film_79 rfl (lv_at hl 0 rfl) ?_
        refine lv_iload_n hx hb d_Model_film_80 rfl (lv_at hl 2 rfl) ?_
        refine lv_bipush (v := 10) hx hb d_Model_film_81 (by decide) ?_
        refine lv_idiv hx hb d_Model_film_83 (by decide) ?_
        refine lv_iload_n hx hb d_Model_film_84 rfl (lv_at hl 2 rfl) ?_
        refine lv_bipush (v := 10) hx hb d_Model_film_85 (by decide) ?_
        refine lv_irem hx hb d_Model_film_87 (by decide) ?_
        refine lv_iconst (v := 5) hx hb d_Model_film_88 (by decide) ?_
        refine lv_iload hx hb d_Model_film_89 (lv_at hl 4 rfl) ?_
        refine lv_imul hx hb d_Model_film_91 ?_
        refine lv_iconst (v := 5) hx hb d_Model_film_92 (by decide) ?_
        refine lv_iadd hx hb d_Model_film_93 ?_
        obtain ⟨s_15, h_s_15, hF⟩ := ob1E hF
        refine r_callVV (As := [.int (v2 / (10 : Int32)), .int (jrem v2 (10 : Int32)), .int (((5 : Int32) * v4) + (5 : Int32))]) (rest := []) K hw hl.1 (c_Model_goesOn (l := l) (D := D) (cA := cA) (ad := ad) (s0 := s0)   h_s_15) sh_Model rfl (tb_gV w_1234 w_1236 w_46 w_80 w_1237) a_Model_goesOn ⟨rfl, rfl, Nat.le_of_ble_eq_true rfl, Nat.le_of_ble_eq_true rfl⟩ rfl rfl (Nat.le_of_ble_eq_true rfl) d_Model_film_94 (fun H locs hw => ?_)
        exact q_Model_film_97 K (fun z0 zv1 zv2 zv3 zv4 => F_Model_film_66 n z0 zv1 zv2 zv3 zv4) ih _ _ _ _ _ _ _ _  hw (lv_sub hl [0, 1, 2, 3, 4] rfl) hF
noncomputable def F_Model_film_0 (s0 : St) (v1 : Int32) (v2 : Int32) (v3 : Int32) : Option (Int32 × St) := (if ¬ (F_Model_in v1 (0 : Int32) (3 : Int32)) = 0 then (ob1 (F_Model_tellTwo s0 v2) (fun r_2 => (if ¬ r_2 = 0 then (if ¬ (F_Model_in v3 (0 : Int32) (8 : Int32)) = 0 then (if inB v1 4 = true then (lt (up1 s0 11 v1.toNatClampNeg (2 : Int32)) (fun s_6 => (if inB v1 4 = true then (lt (up1 s_6 12 v1.toNatClampNeg v3) (fun s_8 => (ob1 (F_Model_begins s_8 (v2 / (10 : Int32)) (jrem v2 (10 : Int32)) (0 : Int32)) (fun s_9 => (F_Model_film_66 FU s_9 v1 v2 v3 (0 : Int32)))))) else none))) else none) else (some ((-7 : Int32), s0))) else (some ((-5 : Int32), s0))))) else (some ((-2 : Int32), s0)))
set_option maxHeartbeats 4000000 in
set_option maxRecDepth 100000 in
theorem q_Model_film_0 (K : Fx p s m args meth c b_Model_film 5 R_Model (some .int))  : ∀ (H : Heap) (locs : List Loc) (ls : Array Slot) (s0 : St) (v1 : Int32) (v2 : Int32) (v3 : Int32), Wh D cA ad shM A s s0 H locs → lv_has ls 5 [(0, .ref (ad 0)), (1, .int v1), (2, .int v2), (3, .int v3)] → F_Model_film_0 s0 v1 v2 v3 = (some (r, τ)) → W p l e rm_Model_film s m args below meth c H locs 0 0 (MQ below (QcI D cA ad shM A r τ) args s 0 0 A) (F0 m 0 ls []) := by
  have hx := K.1.1; have hb := K.1.2.1
  intro H locs ls s0 v1 v2 v3 hw hl hF
  unfold F_Model_film_0 at hF
  refine lv_iload_n hx hb d_Model_film_0 rfl (lv_at hl 1 rfl) ?_
  refine lv_iconst (v := 0) hx hb d_Model_film_1 (by decide) ?_
  refine lv_iconst (v := 3) hx hb d_Model_film_2 (by decide) ?_
  refine r_callSI (As := [.int v1, .int (0 : Int32), .int (3 : Int32)]) (rest := []) K hw hl.1 (c_Model_in (l := l) (D := D) (cA := cA) (ad := ad) (s0 := s0)   rfl) (tb_gS w_986 w_987 w_80 w_988) a_Model_in ⟨rfl, rfl, Nat.le_of_ble_eq_true rfl, Nat.le_of_ble_eq_true rfl⟩ rfl rfl (Nat.le_of_ble_eq_true rfl) d_Model_film_3 (fun H locs hw => ?_)
  refine lv_if_ne (tgt := 12) hx hb d_Model_film_6 (by decide) (fun c_1 => ?_) (fun c_1 => ?_)
  · replace hF := ifT hF c_1
    refine lv_aload_n hx hb d_Model_film_12 rfl (lv_at hl 0 rfl) ?_
    refine lv_iload_n hx hb d_Model_film_13 rfl (lv_at hl 2 rfl) ?_
    obtain ⟨r_2, h_r_2, hF⟩ := ob1E hF
    refine r_callVI (As := [.int v2]) (rest := []) K hw hl.1 (c_Model_tellTwo (l := l) (D := D) (cA := cA) (ad := ad) (s0 := s0)   h_r_2) sh_Model rfl (tb_gV w_1222 w_1224 w_43 w_80 w_1225) a_Model_tellTwo ⟨rfl, rfl, Nat.le_of_ble_eq_true rfl, Nat.le_of_ble_eq_true rfl⟩ rfl rfl (Nat.le_of_ble_eq_true rfl) d_Model_film_14 (fun H locs hw => ?_)
    refine lv_if_ne (tgt := 23) hx hb d_Model_film_17 (by decide) (fun c_3 => ?_) (fun c_3 => ?_)
    · replace hF := ifT hF c_3
      refine lv_iload_n hx hb d_Model_film_23 rfl (lv_at hl 3 rfl) ?_
      refine lv_iconst (v := 0) hx hb d_Model_film_24 (by decide) ?_
      refine lv_bipush (v := 8) hx hb d_Model_film_25 (by decide) ?_
      refine r_callSI (As := [.int v3, .int (0 : Int32), .int (8 : Int32)]) (rest := []) K hw hl.1 (c_Model_in (l := l) (D := D) (cA := cA) (ad := ad) (s0 := s0)   rfl) (tb_gS w_986 w_987 w_80 w_988) a_Model_in ⟨rfl, rfl, Nat.le_of_ble_eq_true rfl, Nat.le_of_ble_eq_true rfl⟩ rfl rfl (Nat.le_of_ble_eq_true rfl) d_Model_film_27 (fun H locs hw => ?_)
      refine lv_if_ne (tgt := 36) hx hb d_Model_film_30 (by decide) (fun c_4 => ?_) (fun c_4 => ?_)
      · replace hF := ifT hF c_4
        refine lv_aload_n hx hb d_Model_film_36 rfl (lv_at hl 0 rfl) ?_
        refine r_get (v := .ref (ad 11)) K hw i_Model sh_Model rfl 17 (by decide) w_1042 rfl rfl rfl d_Model_film_37 ?_
        refine lv_iload_n hx hb d_Model_film_40 rfl (lv_at hl 1 rfl) ?_
        refine lv_iconst (v := 2) hx hb d_Model_film_41 (by decide) ?_
        obtain ⟨g_5, hF⟩ := ifG hF
        refine r_iast (k := v1.toNatClampNeg) K hw (show shM[11]? = some (.inr (.inl 4)) from rfl) rfl (inB_vp g_5) d_Model_film_42 (fun s_6 f_s_6 H locs hw => ?_)
        replace hF := ltN hF f_s_6
        refine lv_aload_n hx hb d_Model_film_43 rfl (lv_at hl 0 rfl) ?_
        refine r_get (v := .ref (ad 12)) K hw i_Model sh_Model rfl 18 (by decide) w_1043 rfl rfl rfl d_Model_film_44 ?_
        refine lv_iload_n hx hb d_Model_film_47 rfl (lv_at hl 1 rfl) ?_
        refine lv_iload_n hx hb d_Model_film_48 rfl (lv_at hl 3 rfl) ?_
        obtain ⟨g_7, hF⟩ := ifG hF
        refine r_iast (k := v1.toNatClampNeg) K hw (show shM[12]? = some (.inr (.inl 4)) from rfl) rfl (inB_vp g_7) d_Model_film_49 (fun s_8 f_s_8 H locs hw => ?_)
        replace hF := ltN hF f_s_8
        refine lv_aload_n hx hb d_Model_film_50 rfl (lv_at hl 0 rfl) ?_
        refine lv_iload_n hx hb d_Model_film_51 rfl (lv_at hl 2 rfl) ?_
        refine lv_bipush (v := 10) hx hb d_Model_film_52 (by decide) ?_
        refine lv_idiv hx hb d_Model_film_54 (by decide) ?_
        refine lv_iload_n hx hb d_Model_film_55 rfl (lv_at hl 2 rfl) ?_
        refine lv_bipush (v := 10) hx hb d_Model_film_56 (by decide) ?_
        refine lv_irem hx hb d_Model_film_58 (by decide) ?_
        refine lv_iconst (v := 0) hx hb d_Model_film_59 (by decide) ?_
        obtain ⟨s_9, h_s_9, hF⟩ := ob1E hF
        refine r_callVV (As := [.int (v2 / (10 : Int32)), .int (jrem v2 (10 : Int32)), .int (0 : Int32)]) (rest := []) K hw hl.1 (c_Model_begins (l := l) (D := D) (cA := cA) (ad := ad) (s0 := s_8)   h_s_9) sh_Model rfl (tb_gV w_1230 w_1232 w_45 w_80 w_1233) a_Model_begins ⟨rfl, rfl, Nat.le_of_ble_eq_true rfl, Nat.le_of_ble_eq_true rfl⟩ rfl rfl (Nat.le_of_ble_eq_true rfl) d_Model_film_60 (fun H locs hw => ?_)
        refine lv_iconst (v := 0) hx hb d_Model_film_63 (by decide) ?_
        refine lv_istore (lv' := [(4, .int (0 : Int32)), (0, .ref (ad 0)), (1, .int v1), (2, .int v2), (3, .int v3)]) hx hb d_Model_film_64 hl (by decide) rfl (fun ls hl => ?_)
        exact q_Model_film_66 K FU _ _ _ _ _ _ _ _  hw (lv_sub hl [1, 2, 3, 4, 0] rfl) hF
      · replace hF := ifN hF c_4
        refine lv_bipush (v := -7) hx hb d_Model_film_33 (by decide) ?_
        obtain ⟨hF, hG⟩ := sE2 hF
        subst hF
        subst hG
        exact r_iret K hw d_Model_film_35
    · replace hF := ifN hF c_3
      refine lv_bipush (v := -5) hx hb d_Model_film_20 (by decide) ?_
      obtain ⟨hF, hG⟩ := sE2 hF
      subst hF
      subst hG
      exact r_iret K hw d_Model_film_22
  · replace hF := ifN hF c_1
    refine lv_bipush (v := -2) hx hb d_Model_film_9 (by decide) ?_
    obtain ⟨hF, hG⟩ := sE2 hF
    subst hF
    subst hG
    exact r_iret K hw d_Model_film_11
end S_Model_film
noncomputable abbrev F_Model_film := F_Model_film_0
theorem c_Model_film {l : Launch} {D : va_G} {cA : Nat → ClassId} {ad : Nat → Nat} {s0 τ : St} {r : Int32} {v1 : Int32} {v2 : Int32} {v3 : Int32}  (hF : F_Model_film s0 v1 v2 v3 = (some (r, τ))) : MI l D cA ad shM y_Model_film (wT y_Model_film b_Model_film 5 (some .int)) rm_Model_film [.ref (ad 0), .int v1, .int v2, .int v3] s0 r τ := fun sz => m_start (Qc := fun A => QcI D cA ad shM A r τ) (by decide +kernel) w_1362 (Nat.le_of_ble_eq_true rfl) (fun p e s m below meth c ls K hl hw => q_Model_film_0 K _ _ _ _ _ _ _  hw hl hF)

/-! Model.winnerBy(III)I -/
abbrev b_Model_winnerBy : ByteArray := prog_13_method_67_code
def y_Model_winnerBy : MethodName := ⟨R_Model, "winnerBy", "(III)I"⟩
theorem a_Model_winnerBy : y_Model_winnerBy.cls = R_Model ∧ y_Model_winnerBy.cls ≠ "java/lang/invoke/MethodHandle" ∧ y_Model_winnerBy.cls ≠ "java/lang/invoke/VarHandle" ∧ (parseMethodDescriptor y_Model_winnerBy.desc).map (fun d => d.parameters.length) = some 3 := by decide +kernel
abbrev rm_Model_winnerBy : Room := { frames := 7, cells := 0, slots := 0, locals := 175 }
theorem w_1372 : Cond.constantLong R_Model 275 (48271) ∈ TB := tb_in 1372 (by decide +kernel) (by decide +kernel)
theorem w_1373 : Cond.constantLong R_Model 277 (2147483647) ∈ TB := tb_in 1373 (by decide +kernel) (by decide +kernel)
theorem w_1374 : Cond.constantLong R_Model 279 (4) ∈ TB := tb_in 1374 (by decide +kernel) (by decide +kernel)
theorem w_1371 : Cond.code y_Model_winnerBy b_Model_winnerBy 6 (some .int) ∈ TB := tb_in 1371 (by decide +kernel) (by decide +kernel)
theorem d_Model_winnerBy_0 : decode b_Model_winnerBy 0 = .ok (.iload_n 1, 1) := by decide +kernel
theorem d_Model_winnerBy_1 : decode b_Model_winnerBy 1 = .ok (.i2l, 1) := by decide +kernel
theorem d_Model_winnerBy_2 : decode b_Model_winnerBy 2 = .ok (.lconst 1, 1) := by decide +kernel
theorem d_Model_winnerBy_3 : decode b_Model_winnerBy 3 = .ok (.ladd, 1) := by decide +kernel
theorem d_Model_winnerBy_4 : decode b_Model_winnerBy 4 = .ok (.ldc2_w 275, 3) := by decide +kernel
theorem d_Model_winnerBy_7 : decode b_Model_winnerBy 7 = .ok (.lmul, 1) := by decide +kernel
theorem d_Model_winnerBy_8 : decode b_Model_winnerBy 8 = .ok (.ldc2_w 277, 3) := by decide +kernel
theorem d_Model_winnerBy_11 : decode b_Model_winnerBy 11 = .ok (.lrem, 1) := by decide +kernel
theorem d_Model_winnerBy_12 : decode b_Model_winnerBy 12 = .ok (.lstore 4, 2) := by decide +kernel
theorem d_Model_winnerBy_14 : decode b_Model_winnerBy 14 = .ok (.aload_n 0, 1) := by decide +kernel
theorem d_Model_winnerBy_15 : decode b_Model_winnerBy 15 = .ok (.lload 4, 2) := by decide +kernel
theorem d_Model_winnerBy_17 : decode b_Model_winnerBy 17 = .ok (.ldc2_w 279, 3) := by decide +kernel
theorem d_Model_winnerBy_20 : decode b_Model_winnerBy 20 = .ok (.lrem, 1) := by decide +kernel
theorem d_Model_winnerBy_21 : decode b_Model_winnerBy 21 = .ok (.l2i, 1) := by decide +kernel
theorem d_Model_winnerBy_22 : decode b_Model_winnerBy 22 = .ok (.putfield 175, 3) := by decide +kernel
theorem d_Model_winnerBy_25 : decode b_Model_winnerBy 25 = .ok (.lload 4, 2) := by decide +kernel
theorem d_Model_winnerBy_27 : decode b_Model_winnerBy 27 = .ok (.ldc2_w 275, 3) := by decide +kernel
theorem d_Model_winnerBy_30 : decode b_Model_winnerBy 30 = .ok (.lmul, 1) := by decide +kernel
theorem d_Model_winnerBy_31 : decode b_Model_winnerBy 31 = .ok (.ldc2_w 277, 3) := by decide +kernel
theorem d_Model_winnerBy_34 : decode b_Model_winnerBy 34 = .ok (.lrem, 1) := by decide +kernel
theorem d_Model_winnerBy_35 : decode b_Model_winnerBy 35 = .ok (.lstore 4, 2) := by decide +kernel
theorem d_Model_winnerBy_37 : decode b_Model_winnerBy 37 = .ok (.aload_n 0, 1) := by decide +kernel
theorem d_Model_winnerBy_38 : decode b_Model_winnerBy 38 = .ok (.lload 4, 2) := by decide +kernel
theorem d_Model_winnerBy_40 : decode b_Model_winnerBy 40 = .ok (.ldc2_w 279, 3) := by decide +kernel
theorem d_Model_winnerBy_43 : decode b_Model_winnerBy 43 = .ok (.lrem, 1) := by decide +kernel
theorem d_Model_winnerBy_44 : decode b_Model_winnerBy 44 = .ok (.l2i, 1) := by decide +kernel
theorem d_Model_winnerBy_45 : decode b_Model_winnerBy 45 = .ok (.putfield 181, 3) := by decide +kernel
theorem d_Model_winnerBy_48 : decode b_Model_winnerBy 48 = .ok (.aload_n 0, 1) := by decide +kernel
theorem d_Model_winnerBy_49 : decode b_Model_winnerBy 49 = .ok (.iload_n 2, 1) := by decide +kernel
theorem d_Model_winnerBy_50 : decode b_Model_winnerBy 50 = .ok (.iload_n 3, 1) := by decide +kernel
theorem d_Model_winnerBy_51 : decode b_Model_winnerBy 51 = .ok (.invokevirtual 216, 3) := by decide +kernel
theorem d_Model_winnerBy_54 : decode b_Model_winnerBy 54 = .ok (.aload_n 0, 1) := by decide +kernel
theorem d_Model_winnerBy_55 : decode b_Model_winnerBy 55 = .ok (.iconst 0, 1) := by decide +kernel
theorem d_Model_winnerBy_56 : decode b_Model_winnerBy 56 = .ok (.putfield 175, 3) := by decide +kernel
theorem d_Model_winnerBy_59 : decode b_Model_winnerBy 59 = .ok (.aload_n 0, 1) := by decide +kernel
theorem d_Model_winnerBy_60 : decode b_Model_winnerBy 60 = .ok (.iconst 0, 1) := by decide +kernel
theorem d_Model_winnerBy_61 : decode b_Model_winnerBy 61 = .ok (.putfield 181, 3) := by decide +kernel
theorem d_Model_winnerBy_64 : decode b_Model_winnerBy 64 = .ok (.aload_n 0, 1) := by decide +kernel
theorem d_Model_winnerBy_65 : decode b_Model_winnerBy 65 = .ok (.iload_n 2, 1) := by decide +kernel
theorem d_Model_winnerBy_66 : decode b_Model_winnerBy 66 = .ok (.iload_n 3, 1) := by decide +kernel
theorem d_Model_winnerBy_67 : decode b_Model_winnerBy 67 = .ok (.invokevirtual 223, 3) := by decide +kernel
theorem d_Model_winnerBy_70 : decode b_Model_winnerBy 70 = .ok (.ireturn, 1) := by decide +kernel
section S_Model_winnerBy
variable {p : Program} {l : Launch} {e : Env} {s : State} {m : MethodId} {args : Array Value} {below : List Frame} {meth : Method} {c : Code} {D : va_G} {cA : Nat → ClassId} {ad : Nat → Nat} {nC : Nat} {A : Nat → Prop} {r : Int32} {τ : St}
noncomputable def F_Model_winnerBy_0 (s0 : St) (v1 : Int32) (v2 : Int32) (v3 : Int32) : Option (Int32 × St) := (lt ((jremL (((v1.toInt64) + (1 : Int64)) * (48271 : Int64)) (2147483647 : Int64))) (fun w_1 => (lt (up1 s0 0 37 ((jremL w_1 (4 : Int64)).toInt32)) (fun s_2 => (lt ((jremL (w_1 * (48271 : Int64)) (2147483647 : Int64))) (fun w_3 => (lt (up1 s_2 0 38 ((jremL w_3 (4 : Int64)).toInt32)) (fun s_4 => (ob1 (F_Model_bouts s_4 v2 v3) (fun s_5 => (lt (up1 s_5 0 37 (0 : Int32)) (fun s_6 => (lt (up1 s_6 0 38 (0 : Int32)) (fun s_7 => (some ((F_Model_winner s_7 v2 v3), s_7))))))))))))))))
set_option maxHeartbeats 4000000 in
set_option maxRecDepth 100000 in
theorem q_Model_winnerBy_0 (K : Fx p s m args meth c b_Model_winnerBy 6 R_Model (some .int))  : ∀ (H : Heap) (locs : List Loc) (ls : Array Slot) (s0 : St) (v1 : Int32) (v2 : Int32) (v3 : Int32), Wh D cA ad shM A s s0 H locs → lv_has ls 6 [(0, .ref (ad 0)), (1, .int v1), (2, .int v2), (3, .int v3)] → F_Model_winnerBy_0 s0 v1 v2 v3 = (some (r, τ)) → W p l e rm_Model_winnerBy s m args below meth c H locs 0 0 (MQ below (QcI D cA ad shM A r τ) args s 0 0 A) (F0 m 0 ls []) := by
  have hx := K.1.1; have hb := K.1.2.1
  intro H locs ls s0 v1 v2 v3 hw hl hF
  unfold F_Model_winnerBy_0 at hF
  refine lv_iload_n hx hb d_Model_winnerBy_0 rfl (lv_at hl 1 rfl) ?_
  refine lv_i2l (v := v1.toInt64) hx hb d_Model_winnerBy_1 rfl ?_
  refine lv_lconst (v := 1) hx hb d_Model_winnerBy_2 (by decide) ?_
  refine lv_ladd hx hb d_Model_winnerBy_3 ?_
  refine lv_ldc2 (v := 48271) hx hb K.1.2.2.2.1 (K.1.2.2.2.2 _ w_1372) d_Model_winnerBy_4 ?_
  refine lv_lmul hx hb d_Model_winnerBy_7 ?_
  refine lv_ldc2 (v := 2147483647) hx hb K.1.2.2.2.1 (K.1.2.2.2.2 _ w_1373) d_Model_winnerBy_8 ?_
  refine lv_lrem hx hb d_Model_winnerBy_11 (by decide) ?_
  refine lv_topl (fun w_1 f_w_1 => ?_)
  replace hF := ltN hF f_w_1
  refine lv_lstore (lv' := [(4, .long w_1), (0, .ref (ad 0)), (1, .int v1), (2, .int v2), (3, .int v3)]) hx hb d_Model_winnerBy_12 hl (by decide) rfl (fun ls hl => ?_)
  refine lv_aload_n hx hb d_Model_winnerBy_14 rfl (lv_at hl 1 rfl) ?_
  refine lv_lload hx hb d_Model_winnerBy_15 (lv_at hl 0 rfl) ?_
  refine lv_ldc2 (v := 4) hx hb K.1.2.2.2.1 (K.1.2.2.2.2 _ w_1374) d_Model_winnerBy_17 ?_
  refine lv_lrem hx hb d_Model_winnerBy_20 (by decide) ?_
  refine lv_l2i (v := (jremL w_1 (4 : Int64)).toInt32) hx hb d_Model_winnerBy_21 rfl ?_
  refine r_putI K hw i_Model t_Model t_Model_ok n_Model sh_Model rfl 37 (by decide) w_1062 rfl rfl rfl rfl rfl d_Model_winnerBy_22 (fun s_2 f_s_2 H locs hw => ?_)
  replace hF := ltN hF f_s_2
  refine lv_lload hx hb d_Model_winnerBy_25 (lv_at hl 0 rfl) ?_
  refine lv_ldc2 (v := 48271) hx hb K.1.2.2.2.1 (K.1.2.2.2.2 _ w_1372) d_Model_winnerBy_27 ?_
  refine lv_lmul hx hb d_Model_winnerBy_30 ?_
  refine lv_ldc2 (v := 2147483647) hx hb K.1.2.2.2.1 (K.1.2.2.2.2 _ w_1373) d_Model_winnerBy_31 ?_
  refine lv_lrem hx hb d_Model_winnerBy_34 (by decide) ?_
  refine lv_topl (fun w_3 f_w_3 => ?_)
  replace hF := ltN hF f_w_3
  refine lv_lstore (lv' := [(4, .long w_3), (0, .ref (ad 0)), (1, .int v1), (2, .int v2), (3, .int v3)]) hx hb d_Model_winnerBy_35 hl (by decide) rfl (fun ls hl => ?_)
  refine lv_aload_n hx hb d_Model_winnerBy_37 rfl (lv_at hl 1 rfl) ?_
  refine lv_lload hx hb d_Model_winnerBy_38 (lv_at hl 0 rfl) ?_
  refine lv_ldc2 (v := 4) hx hb K.1.2.2.2.1 (K.1.2.2.2.2 _ w_1374) d_Model_winnerBy_40 ?_
  refine lv_lrem hx hb d_Model_winnerBy_43 (by decide) ?_
  refine lv_l2i (v := (jremL w_3 (4 : Int64)).toInt32) hx hb d_Model_winnerBy_44 rfl ?_
  refine r_putI K hw i_Model t_Model t_Model_ok n_Model sh_Model rfl 38 (by decide) w_1063 rfl rfl rfl rfl rfl d_Model_winnerBy_45 (fun s_4 f_s_4 H locs hw => ?_)
  replace hF := ltN hF f_s_4
  refine lv_aload_n hx hb d_Model_winnerBy_48 rfl (lv_at hl 1 rfl) ?_
  refine lv_iload_n hx hb d_Model_winnerBy_49 rfl (lv_at hl 3 rfl) ?_
  refine lv_iload_n hx hb d_Model_winnerBy_50 rfl (lv_at hl 4 rfl) ?_
  obtain ⟨s_5, h_s_5, hF⟩ := ob1E hF
  refine r_callVV (As := [.int v2, .int v3]) (rest := []) K hw hl.1 (c_Model_bouts (l := l) (D := D) (cA := cA) (ad := ad) (s0 := s_4)   h_s_5) sh_Model rfl (tb_gV w_1257 w_1259 w_50 w_80 w_1260) a_Model_bouts ⟨rfl, rfl, Nat.le_of_ble_eq_true rfl, Nat.le_of_ble_eq_true rfl⟩ rfl rfl (Nat.le_of_ble_eq_true rfl) d_Model_winnerBy_51 (fun H locs hw => ?_)
  refine lv_aload_n hx hb d_Model_winnerBy_54 rfl (lv_at hl 1 rfl) ?_
  refine lv_iconst (v := 0) hx hb d_Model_winnerBy_55 (by decide) ?_
  refine r_putI K hw i_Model t_Model t_Model_ok n_Model sh_Model rfl 37 (by decide) w_1062 rfl rfl rfl rfl rfl d_Model_winnerBy_56 (fun s_6 f_s_6 H locs hw => ?_)
  replace hF := ltN hF f_s_6
  refine lv_aload_n hx hb d_Model_winnerBy_59 rfl (lv_at hl 1 rfl) ?_
  refine lv_iconst (v := 0) hx hb d_Model_winnerBy_60 (by decide) ?_
  refine r_putI K hw i_Model t_Model t_Model_ok n_Model sh_Model rfl 38 (by decide) w_1063 rfl rfl rfl rfl rfl d_Model_winnerBy_61 (fun s_7 f_s_7 H locs hw => ?_)
  replace hF := ltN hF f_s_7
  refine lv_aload_n hx hb d_Model_winnerBy_64 rfl (lv_at hl 1 rfl) ?_
  refine lv_iload_n hx hb d_Model_winnerBy_65 rfl (lv_at hl 3 rfl) ?_
  refine lv_iload_n hx hb d_Model_winnerBy_66 rfl (lv_at hl 4 rfl) ?_
  refine r_callVI (As := [.int v2, .int v3]) (rest := []) K hw hl.1 (c_Model_winner (l := l) (D := D) (cA := cA) (ad := ad) (s0 := s_7)   rfl) sh_Model rfl (tb_gV w_1261 w_1263 w_51 w_80 w_1264) a_Model_winner ⟨rfl, rfl, Nat.le_of_ble_eq_true rfl, Nat.le_of_ble_eq_true rfl⟩ rfl rfl (Nat.le_of_ble_eq_true rfl) d_Model_winnerBy_67 (fun H locs hw => ?_)
  obtain ⟨hF, hG⟩ := sE2 hF
  subst hF
  subst hG
  exact r_iret K hw d_Model_winnerBy_70
end S_Model_winnerBy
noncomputable abbrev F_Model_winnerBy := F_Model_winnerBy_0
theorem c_Model_winnerBy {l : Launch} {D : va_G} {cA : Nat → ClassId} {ad : Nat → Nat} {s0 τ : St} {r : Int32} {v1 : Int32} {v2 : Int32} {v3 : Int32}  (hF : F_Model_winnerBy s0 v1 v2 v3 = (some (r, τ))) : MI l D cA ad shM y_Model_winnerBy (wT y_Model_winnerBy b_Model_winnerBy 6 (some .int)) rm_Model_winnerBy [.ref (ad 0), .int v1, .int v2, .int v3] s0 r τ := fun sz => m_start (Qc := fun A => QcI D cA ad shM A r τ) (by decide +kernel) w_1371 (Nat.le_of_ble_eq_true rfl) (fun p e s m below meth c ls K hl hw => q_Model_winnerBy_0 K _ _ _ _ _ _ _  hw hl hF)

/-! Model.drawn(III)I -/
abbrev b_Model_drawn : ByteArray := prog_13_method_68_code
def y_Model_drawn : MethodName := ⟨R_Model, "drawn", "(III)I"⟩
theorem a_Model_drawn : y_Model_drawn.cls = R_Model ∧ y_Model_drawn.cls ≠ "java/lang/invoke/MethodHandle" ∧ y_Model_drawn.cls ≠ "java/lang/invoke/VarHandle" ∧ (parseMethodDescriptor y_Model_drawn.desc).map (fun d => d.parameters.length) = some 3 := by decide +kernel
abbrev rm_Model_drawn : Room := { frames := 8, cells := 0, slots := 0, locals := 200 }
theorem w_1367 : Cond.constant R_Model 281 99999 ∈ TB := tb_in 1367 (by decide +kernel) (by decide +kernel)
theorem w_1368 : Cond.methodLink R_Model 282 y_Model_winnerBy ∈ TB := tb_in 1368 (by decide +kernel) (by decide +kernel)
theorem w_1370 : Cond.instanceMethod y_Model_winnerBy ∈ TB := tb_in 1370 (by decide +kernel) (by decide +kernel)
theorem w_61 : Cond.selects R_Model y_Model_winnerBy y_Model_winnerBy ∈ TB := tb_in 61 (by decide +kernel) (by decide +kernel)
theorem w_1366 : Cond.code y_Model_drawn b_Model_drawn 4 (some .int) ∈ TB := tb_in 1366 (by decide +kernel) (by decide +kernel)
theorem d_Model_drawn_0 : decode b_Model_drawn 0 = .ok (.aload_n 0, 1) := by decide +kernel
theorem d_Model_drawn_1 : decode b_Model_drawn 1 = .ok (.iload_n 2, 1) := by decide +kernel
theorem d_Model_drawn_2 : decode b_Model_drawn 2 = .ok (.iload_n 3, 1) := by decide +kernel
theorem d_Model_drawn_3 : decode b_Model_drawn 3 = .ok (.invokevirtual 86, 3) := by decide +kernel
theorem d_Model_drawn_6 : decode b_Model_drawn 6 = .ok (.ifCond .ne 6, 3) := by decide +kernel
theorem d_Model_drawn_9 : decode b_Model_drawn 9 = .ok (.bipush (-5), 2) := by decide +kernel
theorem d_Model_drawn_11 : decode b_Model_drawn 11 = .ok (.ireturn, 1) := by decide +kernel
theorem d_Model_drawn_12 : decode b_Model_drawn 12 = .ok (.iload_n 1, 1) := by decide +kernel
theorem d_Model_drawn_13 : decode b_Model_drawn 13 = .ok (.iconst 0, 1) := by decide +kernel
theorem d_Model_drawn_14 : decode b_Model_drawn 14 = .ok (.ldc_w 281, 3) := by decide +kernel
theorem d_Model_drawn_17 : decode b_Model_drawn 17 = .ok (.invokestatic 78, 3) := by decide +kernel
theorem d_Model_drawn_20 : decode b_Model_drawn 20 = .ok (.ifCond .eq 13, 3) := by decide +kernel
theorem d_Model_drawn_23 : decode b_Model_drawn 23 = .ok (.aload_n 0, 1) := by decide +kernel
theorem d_Model_drawn_24 : decode b_Model_drawn 24 = .ok (.iload_n 1, 1) := by decide +kernel
theorem d_Model_drawn_25 : decode b_Model_drawn 25 = .ok (.iload_n 2, 1) := by decide +kernel
theorem d_Model_drawn_26 : decode b_Model_drawn 26 = .ok (.iload_n 3, 1) := by decide +kernel
theorem d_Model_drawn_27 : decode b_Model_drawn 27 = .ok (.invokevirtual 282, 3) := by decide +kernel
theorem d_Model_drawn_30 : decode b_Model_drawn 30 = .ok (.goto 5, 3) := by decide +kernel
theorem d_Model_drawn_33 : decode b_Model_drawn 33 = .ok (.bipush (-7), 2) := by decide +kernel
theorem d_Model_drawn_35 : decode b_Model_drawn 35 = .ok (.ireturn, 1) := by decide +kernel
section S_Model_drawn
variable {p : Program} {l : Launch} {e : Env} {s : State} {m : MethodId} {args : Array Value} {below : List Frame} {meth : Method} {c : Code} {D : va_G} {cA : Nat → ClassId} {ad : Nat → Nat} {nC : Nat} {A : Nat → Prop} {r : Int32} {τ : St}
noncomputable def F_Model_drawn_0 (s0 : St) (v1 : Int32) (v2 : Int32) (v3 : Int32) : Option (Int32 × St) := (ob1 (F_Model_areTwo s0 v2 v3) (fun r_1 => (if ¬ r_1 = 0 then (if (F_Model_in v1 (0 : Int32) (99999 : Int32)) = 0 then (some ((-7 : Int32), s0)) else (ob2 (F_Model_winnerBy s0 v1 v2 v3) (fun r_4 s_5 => (some (r_4, s_5))))) else (some ((-5 : Int32), s0)))))
set_option maxHeartbeats 4000000 in
set_option maxRecDepth 100000 in
theorem q_Model_drawn_0 (K : Fx p s m args meth c b_Model_drawn 4 R_Model (some .int))  : ∀ (H : Heap) (locs : List Loc) (ls : Array Slot) (s0 : St) (v1 : Int32) (v2 : Int32) (v3 : Int32), Wh D cA ad shM A s s0 H locs → lv_has ls 4 [(0, .ref (ad 0)), (1, .int v1), (2, .int v2), (3, .int v3)] → F_Model_drawn_0 s0 v1 v2 v3 = (some (r, τ)) → W p l e rm_Model_drawn s m args below meth c H locs 0 0 (MQ below (QcI D cA ad shM A r τ) args s 0 0 A) (F0 m 0 ls []) := by
  have hx := K.1.1; have hb := K.1.2.1
  intro H locs ls s0 v1 v2 v3 hw hl hF
  unfold F_Model_drawn_0 at hF
  refine lv_aload_n hx hb d_Model_drawn_0 rfl (lv_at hl 0 rfl) ?_
  refine lv_iload_n hx hb d_Model_drawn_1 rfl (lv_at hl 2 rfl) ?_
  refine lv_iload_n hx hb d_Model_drawn_2 rfl (lv_at hl 3 rfl) ?_
  obtain ⟨r_1, h_r_1, hF⟩ := ob1E hF
  refine r_callVI (As := [.int v2, .int v3]) (rest := []) K hw hl.1 (c_Model_areTwo (l := l) (D := D) (cA := cA) (ad := ad) (s0 := s0)   h_r_1) sh_Model rfl (tb_gV w_1226 w_1228 w_44 w_80 w_1229) a_Model_areTwo ⟨rfl, rfl, Nat.le_of_ble_eq_true rfl, Nat.le_of_ble_eq_true rfl⟩ rfl rfl (Nat.le_of_ble_eq_true rfl) d_Model_drawn_3 (fun H locs hw => ?_)
  refine lv_if_ne (tgt := 12) hx hb d_Model_drawn_6 (by decide) (fun c_2 => ?_) (fun c_2 => ?_)
  · replace hF := ifT hF c_2
    refine lv_iload_n hx hb d_Model_drawn_12 rfl (lv_at hl 1 rfl) ?_
    refine lv_iconst (v := 0) hx hb d_Model_drawn_13 (by decide) ?_
    refine lv_ldcw (v := 99999) hx hb K.1.2.2.2.1 (K.1.2.2.2.2 _ w_1367) d_Model_drawn_14 ?_
    refine r_callSI (As := [.int v1, .int (0 : Int32), .int (99999 : Int32)]) (rest := []) K hw hl.1 (c_Model_in (l := l) (D := D) (cA := cA) (ad := ad) (s0 := s0)   rfl) (tb_gS w_986 w_987 w_80 w_988) a_Model_in ⟨rfl, rfl, Nat.le_of_ble_eq_true rfl, Nat.le_of_ble_eq_true rfl⟩ rfl rfl (Nat.le_of_ble_eq_true rfl) d_Model_drawn_17 (fun H locs hw => ?_)
    refine lv_if_eq (tgt := 33) hx hb d_Model_drawn_20 (by decide) (fun c_3 => ?_) (fun c_3 => ?_)
    · replace hF := ifT hF c_3
      refine lv_bipush (v := -7) hx hb d_Model_drawn_33 (by decide) ?_
      obtain ⟨hF, hG⟩ := sE2 hF
      subst hF
      subst hG
      exact r_iret K hw d_Model_drawn_35
    · replace hF := ifF hF c_3
      refine lv_aload_n hx hb d_Model_drawn_23 rfl (lv_at hl 0 rfl) ?_
      refine lv_iload_n hx hb d_Model_drawn_24 rfl (lv_at hl 1 rfl) ?_
      refine lv_iload_n hx hb d_Model_drawn_25 rfl (lv_at hl 2 rfl) ?_
      refine lv_iload_n hx hb d_Model_drawn_26 rfl (lv_at hl 3 rfl) ?_
      obtain ⟨r_4, s_5, h_s_5, hF⟩ := ob2E hF
      refine r_callVI (As := [.int v1, .int v2, .int v3]) (rest := []) K hw hl.1 (c_Model_winnerBy (l := l) (D := D) (cA := cA) (ad := ad) (s0 := s0)   h_s_5) sh_Model rfl (tb_gV w_1368 w_1370 w_61 w_80 w_1371) a_Model_winnerBy ⟨rfl, rfl, Nat.le_of_ble_eq_true rfl, Nat.le_of_ble_eq_true rfl⟩ rfl rfl (Nat.le_of_ble_eq_true rfl) d_Model_drawn_27 (fun H locs hw => ?_)
      refine lv_goto (tgt := 35) hx hb d_Model_drawn_30 (by decide) ?_
      obtain ⟨hF, hG⟩ := sE2 hF
      subst hF
      subst hG
      exact r_iret K hw d_Model_drawn_35
  · replace hF := ifN hF c_2
    refine lv_bipush (v := -5) hx hb d_Model_drawn_9 (by decide) ?_
    obtain ⟨hF, hG⟩ := sE2 hF
    subst hF
    subst hG
    exact r_iret K hw d_Model_drawn_11
end S_Model_drawn
noncomputable abbrev F_Model_drawn := F_Model_drawn_0
theorem c_Model_drawn {l : Launch} {D : va_G} {cA : Nat → ClassId} {ad : Nat → Nat} {s0 τ : St} {r : Int32} {v1 : Int32} {v2 : Int32} {v3 : Int32}  (hF : F_Model_drawn s0 v1 v2 v3 = (some (r, τ))) : MI l D cA ad shM y_Model_drawn (wT y_Model_drawn b_Model_drawn 4 (some .int)) rm_Model_drawn [.ref (ad 0), .int v1, .int v2, .int v3] s0 r τ := fun sz => m_start (Qc := fun A => QcI D cA ad shM A r τ) (by decide +kernel) w_1366 (Nat.le_of_ble_eq_true rfl) (fun p e s m below meth c ls K hl hw => q_Model_drawn_0 K _ _ _ _ _ _ _  hw hl hF)
