/-! Main.set(III)I -/
abbrev b_Main_set : ByteArray := prog_1_method_8_code
def y_Main_set : MethodName := ⟨R_Main, "set", "(III)I"⟩
theorem a_Main_set : y_Main_set.cls = R_Main ∧ y_Main_set.cls ≠ "java/lang/invoke/MethodHandle" ∧ y_Main_set.cls ≠ "java/lang/invoke/VarHandle" ∧ (parseMethodDescriptor y_Main_set.desc).map (fun d => d.parameters.length) = some 3 := by decide +kernel
abbrev rm_Main_set : Room := { frames := 2, cells := 0, slots := 0, locals := 43 }
theorem w_709 : Cond.methodLink R_Main 153 y_Main_isPlan ∈ TB := tb_in 709 (by decide +kernel) (by decide +kernel)
theorem w_710 : Cond.static y_Main_isPlan ∈ TB := tb_in 710 (by decide +kernel) (by decide +kernel)
theorem w_158 : Cond.fieldLink R_Main 156 R_Arm "plan" "I" ∈ TB := tb_in 158 (by decide +kernel) (by decide +kernel)
theorem w_155 : Cond.fieldLink R_Main 152 R_Arm "hold" "I" ∈ TB := tb_in 155 (by decide +kernel) (by decide +kernel)
theorem w_708 : Cond.code y_Main_set b_Main_set 6 (some .int) ∈ TB := tb_in 708 (by decide +kernel) (by decide +kernel)
theorem d_Main_set_0 : decode b_Main_set 0 = .ok (.aload_n 0, 1) := by decide +kernel
theorem d_Main_set_1 : decode b_Main_set 1 = .ok (.iload_n 1, 1) := by decide +kernel
theorem d_Main_set_2 : decode b_Main_set 2 = .ok (.invokevirtual 120, 3) := by decide +kernel
theorem d_Main_set_5 : decode b_Main_set 5 = .ok (.ifCond .ne 6, 3) := by decide +kernel
theorem d_Main_set_8 : decode b_Main_set 8 = .ok (.bipush (-5), 2) := by decide +kernel
theorem d_Main_set_10 : decode b_Main_set 10 = .ok (.ireturn, 1) := by decide +kernel
theorem d_Main_set_11 : decode b_Main_set 11 = .ok (.aload_n 0, 1) := by decide +kernel
theorem d_Main_set_12 : decode b_Main_set 12 = .ok (.getfield 11, 3) := by decide +kernel
theorem d_Main_set_15 : decode b_Main_set 15 = .ok (.iload_n 1, 1) := by decide +kernel
theorem d_Main_set_16 : decode b_Main_set 16 = .ok (.aaload, 1) := by decide +kernel
theorem d_Main_set_17 : decode b_Main_set 17 = .ok (.astore 4, 2) := by decide +kernel
theorem d_Main_set_19 : decode b_Main_set 19 = .ok (.iload_n 2, 1) := by decide +kernel
theorem d_Main_set_20 : decode b_Main_set 20 = .ok (.ifCond .ne 29, 3) := by decide +kernel
theorem d_Main_set_23 : decode b_Main_set 23 = .ok (.iload_n 3, 1) := by decide +kernel
theorem d_Main_set_24 : decode b_Main_set 24 = .ok (.iconst 0, 1) := by decide +kernel
theorem d_Main_set_25 : decode b_Main_set 25 = .ok (.bipush 24, 2) := by decide +kernel
theorem d_Main_set_27 : decode b_Main_set 27 = .ok (.invokestatic 108, 3) := by decide +kernel
theorem d_Main_set_30 : decode b_Main_set 30 = .ok (.ifCond .eq 19, 3) := by decide +kernel
theorem d_Main_set_33 : decode b_Main_set 33 = .ok (.aload 4, 2) := by decide +kernel
theorem d_Main_set_35 : decode b_Main_set 35 = .ok (.getfield 152, 3) := by decide +kernel
theorem d_Main_set_38 : decode b_Main_set 38 = .ok (.istore 5, 2) := by decide +kernel
theorem d_Main_set_40 : decode b_Main_set 40 = .ok (.aload 4, 2) := by decide +kernel
theorem d_Main_set_42 : decode b_Main_set 42 = .ok (.iload_n 3, 1) := by decide +kernel
theorem d_Main_set_43 : decode b_Main_set 43 = .ok (.putfield 152, 3) := by decide +kernel
theorem d_Main_set_46 : decode b_Main_set 46 = .ok (.iload 5, 2) := by decide +kernel
theorem d_Main_set_48 : decode b_Main_set 48 = .ok (.ireturn, 1) := by decide +kernel
theorem d_Main_set_49 : decode b_Main_set 49 = .ok (.iload_n 2, 1) := by decide +kernel
theorem d_Main_set_50 : decode b_Main_set 50 = .ok (.iconst 1, 1) := by decide +kernel
theorem d_Main_set_51 : decode b_Main_set 51 = .ok (.if_icmp .ne 26, 3) := by decide +kernel
theorem d_Main_set_54 : decode b_Main_set 54 = .ok (.iload_n 3, 1) := by decide +kernel
theorem d_Main_set_55 : decode b_Main_set 55 = .ok (.invokestatic 153, 3) := by decide +kernel
theorem d_Main_set_58 : decode b_Main_set 58 = .ok (.ifCond .eq 19, 3) := by decide +kernel
theorem d_Main_set_61 : decode b_Main_set 61 = .ok (.aload 4, 2) := by decide +kernel
theorem d_Main_set_63 : decode b_Main_set 63 = .ok (.getfield 156, 3) := by decide +kernel
theorem d_Main_set_66 : decode b_Main_set 66 = .ok (.istore 5, 2) := by decide +kernel
theorem d_Main_set_68 : decode b_Main_set 68 = .ok (.aload 4, 2) := by decide +kernel
theorem d_Main_set_70 : decode b_Main_set 70 = .ok (.iload_n 3, 1) := by decide +kernel
theorem d_Main_set_71 : decode b_Main_set 71 = .ok (.putfield 156, 3) := by decide +kernel
theorem d_Main_set_74 : decode b_Main_set 74 = .ok (.iload 5, 2) := by decide +kernel
theorem d_Main_set_76 : decode b_Main_set 76 = .ok (.ireturn, 1) := by decide +kernel
theorem d_Main_set_77 : decode b_Main_set 77 = .ok (.bipush (-7), 2) := by decide +kernel
theorem d_Main_set_79 : decode b_Main_set 79 = .ok (.ireturn, 1) := by decide +kernel
section S_Main_set
variable {p : Program} {l : Launch} {e : Env} {s : State} {m : MethodId} {args : Array Value} {below : List Frame} {meth : Method} {c : Code} {D : va_G} {cA : Nat → ClassId} {ad : Nat → Nat} {nC : Nat} {A : Nat → Prop} {r : Int32} {τ : St}
noncomputable def F_Main_set_49 (s0 : St) (v2 : Int32) (v3 : Int32) (v4 : Nat) : Option (Int32 × St) := (if ¬ v2 = (1 : Int32) then (some ((-7 : Int32), s0)) else (if (F_Main_isPlan v3) = 0 then (some ((-7 : Int32), s0)) else (lt (up1 s0 v4 5 v3) (fun s_7 => (some ((s0.1 v4 5), s_7))))))
set_option maxHeartbeats 4000000 in
set_option maxRecDepth 100000 in
theorem q_Main_set_49 (hn : 33 ≤ nC) (K : Fx p s m args meth c b_Main_set 6 R_Main (some .int))  : ∀ (H : Heap) (locs : List Loc) (ls : Array Slot) (s0 : St) (v2 : Int32) (v3 : Int32) (v4 : Nat) (g_v4 : P_Arm v4), Wh D cA ad (shC.take nC) A s s0 H locs → lv_has ls 6 [(2, .int v2), (3, .int v3), (4, .ref (ad v4))] → F_Main_set_49 s0 v2 v3 v4 = (some (r, τ)) → W p l e rm_Main_set s m args below meth c H locs 0 0 (MQ below (QcI D cA ad (shC.take nC) A r τ) args s 0 0 A) (F0 m 49 ls []) := by
  have hx := K.1.1; have hb := K.1.2.1
  intro H locs ls s0 v2 v3 v4 g_v4 hw hl hF
  unfold F_Main_set_49 at hF
  refine lv_iload_n hx hb d_Main_set_49 rfl (lv_at hl 0 rfl) ?_
  refine lv_iconst (v := 1) hx hb d_Main_set_50 (by decide) ?_
  refine lv_icmp_ne (tgt := 77) hx hb d_Main_set_51 (by decide) (fun c_5 => ?_) (fun c_5 => ?_)
  · replace hF := ifT hF c_5
    refine lv_bipush (v := -7) hx hb d_Main_set_77 (by decide) ?_
    obtain ⟨hF, hG⟩ := sE2 hF
    subst hF
    subst hG
    exact r_iret K hw d_Main_set_79
  · replace hF := ifN hF c_5
    refine lv_iload_n hx hb d_Main_set_54 rfl (lv_at hl 1 rfl) ?_
    refine r_callSI (As := [.int v3]) (rest := []) K hw hl.1 (c_Main_isPlan (l := l) (D := D) (cA := cA) (ad := ad) (s0 := s0) (Nat.le_trans (Nat.le_of_ble_eq_true rfl) hn)  rfl) (tb_gS w_709 w_710 w_63 w_711) a_Main_isPlan ⟨rfl, rfl, Nat.le_of_ble_eq_true rfl, Nat.le_of_ble_eq_true rfl⟩ rfl rfl (Nat.le_of_ble_eq_true rfl) d_Main_set_55 (fun H locs hw => ?_)
    refine lv_if_eq (tgt := 77) hx hb d_Main_set_58 (by decide) (fun c_6 => ?_) (fun c_6 => ?_)
    · replace hF := ifT hF c_6
      refine lv_bipush (v := -7) hx hb d_Main_set_77 (by decide) ?_
      obtain ⟨hF, hG⟩ := sE2 hF
      subst hF
      subst hG
      exact r_iret K hw d_Main_set_79
    · replace hF := ifF hF c_6
      refine lv_aload hx hb d_Main_set_61 (lv_at hl 2 rfl) ?_
      refine r_get (v := .int (s0.1 v4 5)) K hw i_Arm (sh_Arm g_v4 (Nat.le_trans (Nat.le_of_ble_eq_true rfl) hn)) rfl 5 (by decide) w_158 rfl rfl rfl d_Main_set_63 ?_
      refine lv_istore (lv' := [(5, .int (s0.1 v4 5)), (2, .int v2), (3, .int v3), (4, .ref (ad v4))]) hx hb d_Main_set_66 hl (by decide) rfl (fun ls hl => ?_)
      refine lv_aload hx hb d_Main_set_68 (lv_at hl 3 rfl) ?_
      refine lv_iload_n hx hb d_Main_set_70 rfl (lv_at hl 2 rfl) ?_
      refine r_putI K hw i_Arm t_Arm t_Arm_ok n_Arm (sh_Arm g_v4 (Nat.le_trans (Nat.le_of_ble_eq_true rfl) hn)) rfl 5 (by decide) w_158 rfl rfl rfl rfl rfl d_Main_set_71 (fun s_7 f_s_7 H locs hw => ?_)
      replace hF := ltN hF f_s_7
      refine lv_iload hx hb d_Main_set_74 (lv_at hl 0 rfl) ?_
      obtain ⟨hF, hG⟩ := sE2 hF
      subst hF
      subst hG
      exact r_iret K hw d_Main_set_76
noncomputable def F_Main_set_0 (s0 : St) (v1 : Int32) (v2 : Int32) (v3 : Int32) : Option (Int32 × St) := (ob1 (F_Main_isArm s0 v1) (fun r_1 => (if ¬ r_1 = 0 then (if inB v1 6 = true then (if ¬ v2 = 0 then (F_Main_set_49 s0 v2 v3 (27 + v1.toNatClampNeg)) else (if (F_Main_isWithin v3 (0 : Int32) (24 : Int32)) = 0 then (F_Main_set_49 s0 v2 v3 (27 + v1.toNatClampNeg)) else (lt (up1 s0 (27 + v1.toNatClampNeg) 4 v3) (fun s_9 => (some ((s0.1 (27 + v1.toNatClampNeg) 4), s_9)))))) else none) else (some ((-5 : Int32), s0)))))
set_option maxHeartbeats 4000000 in
set_option maxRecDepth 100000 in
theorem q_Main_set_0 (hn : 33 ≤ nC) (K : Fx p s m args meth c b_Main_set 6 R_Main (some .int))  : ∀ (H : Heap) (locs : List Loc) (ls : Array Slot) (s0 : St) (v1 : Int32) (v2 : Int32) (v3 : Int32), Wh D cA ad (shC.take nC) A s s0 H locs → lv_has ls 6 [(0, .ref (ad 20)), (1, .int v1), (2, .int v2), (3, .int v3)] → F_Main_set_0 s0 v1 v2 v3 = (some (r, τ)) → W p l e rm_Main_set s m args below meth c H locs 0 0 (MQ below (QcI D cA ad (shC.take nC) A r τ) args s 0 0 A) (F0 m 0 ls []) := by
  have hx := K.1.1; have hb := K.1.2.1
  intro H locs ls s0 v1 v2 v3 hw hl hF
  unfold F_Main_set_0 at hF
  refine lv_aload_n hx hb d_Main_set_0 rfl (lv_at hl 0 rfl) ?_
  refine lv_iload_n hx hb d_Main_set_1 rfl (lv_at hl 1 rfl) ?_
  obtain ⟨r_1, h_r_1, hF⟩ := ob1E hF
  refine r_callVI (As := [.int v1]) (rest := []) K hw hl.1 (c_Main_isArm (l := l) (D := D) (cA := cA) (ad := ad) (s0 := s0) (Nat.le_trans (Nat.le_of_ble_eq_true rfl) hn)  h_r_1) (sh_Main (Nat.le_trans (Nat.le_of_ble_eq_true rfl) hn)) rfl (tb_gV w_656 w_658 w_13 w_63 w_659) a_Main_isArm ⟨rfl, rfl, Nat.le_of_ble_eq_true rfl, Nat.le_of_ble_eq_true rfl⟩ rfl rfl (Nat.le_of_ble_eq_true rfl) d_Main_set_2 (fun H locs hw => ?_)
  refine lv_if_ne (tgt := 11) hx hb d_Main_set_5 (by decide) (fun c_2 => ?_) (fun c_2 => ?_)
  · replace hF := ifT hF c_2
    refine lv_aload_n hx hb d_Main_set_11 rfl (lv_at hl 0 rfl) ?_
    refine r_get (v := .ref (ad 21)) K hw i_Main (sh_Main (Nat.le_trans (Nat.le_of_ble_eq_true rfl) hn)) rfl 0 (by decide) w_598 rfl rfl rfl d_Main_set_12 ?_
    refine lv_iload_n hx hb d_Main_set_15 rfl (lv_at hl 1 rfl) ?_
    obtain ⟨g_3, hF⟩ := ifG hF
    refine r_aald (k := v1.toNatClampNeg) K hw (sh_a21 (Nat.le_trans (Nat.le_of_ble_eq_true rfl) hn)) (rfl : (TYS cA)[1]? = some (cA 1, _)) rfl (inB_vp g_3) d_Main_set_16 ?_
    refine lv_astore (lv' := [(4, .ref (ad (27 + v1.toNatClampNeg))), (0, .ref (ad 20)), (1, .int v1), (2, .int v2), (3, .int v3)]) hx hb d_Main_set_17 hl (by decide) rfl (fun ls hl => ?_)
    refine lv_iload_n hx hb d_Main_set_19 rfl (lv_at hl 3 rfl) ?_
    refine lv_if_ne (tgt := 49) hx hb d_Main_set_20 (by decide) (fun c_4 => ?_) (fun c_4 => ?_)
    · replace hF := ifT hF c_4
      exact q_Main_set_49 hn K _ _ _ _ _ _ _ (P_Arm_of g_3) hw (lv_sub hl [3, 4, 0] rfl) hF
    · replace hF := ifN hF c_4
      refine lv_iload_n hx hb d_Main_set_23 rfl (lv_at hl 4 rfl) ?_
      refine lv_iconst (v := 0) hx hb d_Main_set_24 (by decide) ?_
      refine lv_bipush (v := 24) hx hb d_Main_set_25 (by decide) ?_
      refine r_callSI (As := [.int v3, .int (0 : Int32), .int (24 : Int32)]) (rest := []) K hw hl.1 (c_Main_isWithin (l := l) (D := D) (cA := cA) (ad := ad) (s0 := s0) (Nat.le_trans (Nat.le_of_ble_eq_true rfl) hn)  rfl) (tb_gS w_640 w_347 w_63 w_348) a_Main_isWithin ⟨rfl, rfl, Nat.le_of_ble_eq_true rfl, Nat.le_of_ble_eq_true rfl⟩ rfl rfl (Nat.le_of_ble_eq_true rfl) d_Main_set_27 (fun H locs hw => ?_)
      refine lv_if_eq (tgt := 49) hx hb d_Main_set_30 (by decide) (fun c_8 => ?_) (fun c_8 => ?_)
      · replace hF := ifT hF c_8
        exact q_Main_set_49 hn K _ _ _ _ _ _ _ (P_Arm_of g_3) hw (lv_sub hl [3, 4, 0] rfl) hF
      · replace hF := ifF hF c_8
        refine lv_aload hx hb d_Main_set_33 (lv_at hl 0 rfl) ?_
        refine r_get (v := .int (s0.1 (27 + v1.toNatClampNeg) 4)) K hw i_Arm (sh_Arm (P_Arm_of g_3) (Nat.le_trans (Nat.le_of_ble_eq_true rfl) hn)) rfl 4 (by decide) w_155 rfl rfl rfl d_Main_set_35 ?_
        refine lv_istore (lv' := [(5, .int (s0.1 (27 + v1.toNatClampNeg) 4)), (4, .ref (ad (27 + v1.toNatClampNeg))), (0, .ref (ad 20)), (1, .int v1), (2, .int v2), (3, .int v3)]) hx hb d_Main_set_38 hl (by decide) rfl (fun ls hl => ?_)
        refine lv_aload hx hb d_Main_set_40 (lv_at hl 1 rfl) ?_
        refine lv_iload_n hx hb d_Main_set_42 rfl (lv_at hl 5 rfl) ?_
        refine r_putI K hw i_Arm t_Arm t_Arm_ok n_Arm (sh_Arm (P_Arm_of g_3) (Nat.le_trans (Nat.le_of_ble_eq_true rfl) hn)) rfl 4 (by decide) w_155 rfl rfl rfl rfl rfl d_Main_set_43 (fun s_9 f_s_9 H locs hw => ?_)
        replace hF := ltN hF f_s_9
        refine lv_iload hx hb d_Main_set_46 (lv_at hl 0 rfl) ?_
        obtain ⟨hF, hG⟩ := sE2 hF
        subst hF
        subst hG
        exact r_iret K hw d_Main_set_48
  · replace hF := ifN hF c_2
    refine lv_bipush (v := -5) hx hb d_Main_set_8 (by decide) ?_
    obtain ⟨hF, hG⟩ := sE2 hF
    subst hF
    subst hG
    exact r_iret K hw d_Main_set_10
end S_Main_set
noncomputable abbrev F_Main_set := F_Main_set_0
theorem c_Main_set {l : Launch} {D : va_G} {cA : Nat → ClassId} {ad : Nat → Nat} {s0 τ : St} {nC : Nat} (hn : 33 ≤ nC) {r : Int32} {v1 : Int32} {v2 : Int32} {v3 : Int32}  (hF : F_Main_set s0 v1 v2 v3 = (some (r, τ))) : MI l D cA ad (shC.take nC) y_Main_set (wT y_Main_set b_Main_set 6 (some .int)) rm_Main_set [.ref (ad 20), .int v1, .int v2, .int v3] s0 r τ := fun sz => m_start (Qc := fun A => QcI D cA ad (shC.take nC) A r τ) (by decide +kernel) w_708 (Nat.le_of_ble_eq_true rfl) (fun p e s m below meth c ls K hl hw => q_Main_set_0 hn K _ _ _ _ _ _ _  hw hl hF)

/-! Main.told(II)I -/
abbrev b_Main_told : ByteArray := prog_1_method_9_code
def y_Main_told : MethodName := ⟨R_Main, "told", "(II)I"⟩
theorem a_Main_told : y_Main_told.cls = R_Main ∧ y_Main_told.cls ≠ "java/lang/invoke/MethodHandle" ∧ y_Main_told.cls ≠ "java/lang/invoke/VarHandle" ∧ (parseMethodDescriptor y_Main_told.desc).map (fun d => d.parameters.length) = some 2 := by decide +kernel
abbrev rm_Main_told : Room := { frames := 2, cells := 0, slots := 0, locals := 43 }
theorem w_143 : Cond.fieldLink R_Main 159 R_Arm "kind" "I" ∈ TB := tb_in 143 (by decide +kernel) (by decide +kernel)
theorem w_146 : Cond.fieldLink R_Main 162 R_Arm "told" "I" ∈ TB := tb_in 146 (by decide +kernel) (by decide +kernel)
theorem w_149 : Cond.fieldLink R_Main 165 R_Arm "more" "I" ∈ TB := tb_in 149 (by decide +kernel) (by decide +kernel)
theorem w_152 : Cond.fieldLink R_Main 168 R_Arm "late" "I" ∈ TB := tb_in 152 (by decide +kernel) (by decide +kernel)
theorem w_715 : Cond.code y_Main_told b_Main_told 4 (some .int) ∈ TB := tb_in 715 (by decide +kernel) (by decide +kernel)
theorem d_Main_told_0 : decode b_Main_told 0 = .ok (.aload_n 0, 1) := by decide +kernel
theorem d_Main_told_1 : decode b_Main_told 1 = .ok (.iload_n 1, 1) := by decide +kernel
theorem d_Main_told_2 : decode b_Main_told 2 = .ok (.invokevirtual 120, 3) := by decide +kernel
theorem d_Main_told_5 : decode b_Main_told 5 = .ok (.ifCond .ne 6, 3) := by decide +kernel
theorem d_Main_told_8 : decode b_Main_told 8 = .ok (.bipush (-5), 2) := by decide +kernel
theorem d_Main_told_10 : decode b_Main_told 10 = .ok (.ireturn, 1) := by decide +kernel
theorem d_Main_told_11 : decode b_Main_told 11 = .ok (.aload_n 0, 1) := by decide +kernel
theorem d_Main_told_12 : decode b_Main_told 12 = .ok (.getfield 11, 3) := by decide +kernel
theorem d_Main_told_15 : decode b_Main_told 15 = .ok (.iload_n 1, 1) := by decide +kernel
theorem d_Main_told_16 : decode b_Main_told 16 = .ok (.aaload, 1) := by decide +kernel
theorem d_Main_told_17 : decode b_Main_told 17 = .ok (.astore_n 3, 1) := by decide +kernel
theorem d_Main_told_18 : decode b_Main_told 18 = .ok (.iload_n 2, 1) := by decide +kernel
theorem d_Main_told_19 : decode b_Main_told 19 = .ok (.tableswitch 67 0 5 #[37, 42, 47, 52, 57, 62], 37) := by decide +kernel
theorem d_Main_told_56 : decode b_Main_told 56 = .ok (.aload_n 3, 1) := by decide +kernel
theorem d_Main_told_57 : decode b_Main_told 57 = .ok (.getfield 152, 3) := by decide +kernel
theorem d_Main_told_60 : decode b_Main_told 60 = .ok (.ireturn, 1) := by decide +kernel
theorem d_Main_told_61 : decode b_Main_told 61 = .ok (.aload_n 3, 1) := by decide +kernel
theorem d_Main_told_62 : decode b_Main_told 62 = .ok (.getfield 156, 3) := by decide +kernel
theorem d_Main_told_65 : decode b_Main_told 65 = .ok (.ireturn, 1) := by decide +kernel
theorem d_Main_told_66 : decode b_Main_told 66 = .ok (.aload_n 3, 1) := by decide +kernel
theorem d_Main_told_67 : decode b_Main_told 67 = .ok (.getfield 159, 3) := by decide +kernel
theorem d_Main_told_70 : decode b_Main_told 70 = .ok (.ireturn, 1) := by decide +kernel
theorem d_Main_told_71 : decode b_Main_told 71 = .ok (.aload_n 3, 1) := by decide +kernel
theorem d_Main_told_72 : decode b_Main_told 72 = .ok (.getfield 162, 3) := by decide +kernel
theorem d_Main_told_75 : decode b_Main_told 75 = .ok (.ireturn, 1) := by decide +kernel
theorem d_Main_told_76 : decode b_Main_told 76 = .ok (.aload_n 3, 1) := by decide +kernel
theorem d_Main_told_77 : decode b_Main_told 77 = .ok (.getfield 165, 3) := by decide +kernel
theorem d_Main_told_80 : decode b_Main_told 80 = .ok (.ireturn, 1) := by decide +kernel
theorem d_Main_told_81 : decode b_Main_told 81 = .ok (.aload_n 3, 1) := by decide +kernel
theorem d_Main_told_82 : decode b_Main_told 82 = .ok (.getfield 168, 3) := by decide +kernel
theorem d_Main_told_85 : decode b_Main_told 85 = .ok (.ireturn, 1) := by decide +kernel
theorem d_Main_told_86 : decode b_Main_told 86 = .ok (.bipush (-7), 2) := by decide +kernel
theorem d_Main_told_88 : decode b_Main_told 88 = .ok (.ireturn, 1) := by decide +kernel
section S_Main_told
variable {p : Program} {l : Launch} {e : Env} {s : State} {m : MethodId} {args : Array Value} {below : List Frame} {meth : Method} {c : Code} {D : va_G} {cA : Nat → ClassId} {ad : Nat → Nat} {nC : Nat} {A : Nat → Prop} {r : Int32} {τ : St}
noncomputable def F_Main_told_0 (s0 : St) (v1 : Int32) (v2 : Int32) : Option Int32 := (ob1 (F_Main_isArm s0 v1) (fun r_1 => (if ¬ r_1 = 0 then (if inB v1 6 = true then (if v2 = 0 then (some (s0.1 (27 + v1.toNatClampNeg) 4)) else (if v2 = 1 then (some (s0.1 (27 + v1.toNatClampNeg) 5)) else (if v2 = 2 then (some (s0.1 (27 + v1.toNatClampNeg) 0)) else (if v2 = 3 then (some (s0.1 (27 + v1.toNatClampNeg) 1)) else (if v2 = 4 then (some (s0.1 (27 + v1.toNatClampNeg) 2)) else (if v2 = 5 then (some (s0.1 (27 + v1.toNatClampNeg) 3)) else (some (-7 : Int32)))))))) else none) else (some (-5 : Int32)))))
set_option maxHeartbeats 4000000 in
set_option maxRecDepth 100000 in
theorem q_Main_told_0 (hn : 33 ≤ nC) (s0 : St) (K : Fx p s m args meth c b_Main_told 4 R_Main (some .int))  : ∀ (H : Heap) (locs : List Loc) (ls : Array Slot) (v1 : Int32) (v2 : Int32), Wh D cA ad (shC.take nC) A s s0 H locs → lv_has ls 4 [(0, .ref (ad 20)), (1, .int v1), (2, .int v2)] → F_Main_told_0 s0 v1 v2 = (some r) → W p l e rm_Main_told s m args below meth c H locs 0 0 (MQ below (QcI D cA ad (shC.take nC) A r s0) args s 0 0 A) (F0 m 0 ls []) := by
  have hx := K.1.1; have hb := K.1.2.1
  intro H locs ls v1 v2 hw hl hF
  unfold F_Main_told_0 at hF
  refine lv_aload_n hx hb d_Main_told_0 rfl (lv_at hl 0 rfl) ?_
  refine lv_iload_n hx hb d_Main_told_1 rfl (lv_at hl 1 rfl) ?_
  obtain ⟨r_1, h_r_1, hF⟩ := ob1E hF
  refine r_callVI (As := [.int v1]) (rest := []) K hw hl.1 (c_Main_isArm (l := l) (D := D) (cA := cA) (ad := ad) (s0 := s0) (Nat.le_trans (Nat.le_of_ble_eq_true rfl) hn)  h_r_1) (sh_Main (Nat.le_trans (Nat.le_of_ble_eq_true rfl) hn)) rfl (tb_gV w_656 w_658 w_13 w_63 w_659) a_Main_isArm ⟨rfl, rfl, Nat.le_of_ble_eq_true rfl, Nat.le_of_ble_eq_true rfl⟩ rfl rfl (Nat.le_of_ble_eq_true rfl) d_Main_told_2 (fun H locs hw => ?_)
  refine lv_if_ne (tgt := 11) hx hb d_Main_told_5 (by decide) (fun c_2 => ?_) (fun c_2 => ?_)
  · replace hF := ifT hF c_2
    refine lv_aload_n hx hb d_Main_told_11 rfl (lv_at hl 0 rfl) ?_
    refine r_get (v := .ref (ad 21)) K hw i_Main (sh_Main (Nat.le_trans (Nat.le_of_ble_eq_true rfl) hn)) rfl 0 (by decide) w_598 rfl rfl rfl d_Main_told_12 ?_
    refine lv_iload_n hx hb d_Main_told_15 rfl (lv_at hl 1 rfl) ?_
    obtain ⟨g_3, hF⟩ := ifG hF
    refine r_aald (k := v1.toNatClampNeg) K hw (sh_a21 (Nat.le_trans (Nat.le_of_ble_eq_true rfl) hn)) (rfl : (TYS cA)[1]? = some (cA 1, _)) rfl (inB_vp g_3) d_Main_told_16 ?_
    refine lv_astore_n (lv' := [(3, .ref (ad (27 + v1.toNatClampNeg))), (0, .ref (ad 20)), (1, .int v1), (2, .int v2)]) hx hb d_Main_told_17 rfl hl (by decide) rfl (fun ls hl => ?_)
    refine lv_iload_n hx hb d_Main_told_18 rfl (lv_at hl 3 rfl) ?_
    by_cases c_4 : v2 = 0
    · replace hF := ifT hF c_4
      refine lv_tableIn (tgt := 56) hx hb d_Main_told_19 (by rw [c_4]; decide) (by rw [c_4]; decide) (by rw [c_4]; rfl) (by decide) ?_
      refine lv_aload_n hx hb d_Main_told_56 rfl (lv_at hl 0 rfl) ?_
      refine r_get (v := .int (s0.1 (27 + v1.toNatClampNeg) 4)) K hw i_Arm (sh_Arm (P_Arm_of g_3) (Nat.le_trans (Nat.le_of_ble_eq_true rfl) hn)) rfl 4 (by decide) w_155 rfl rfl rfl d_Main_told_57 ?_
      replace hF := sE1 hF
      subst hF
      exact r_iret K hw d_Main_told_60
    replace hF := ifF hF c_4
    by_cases c_5 : v2 = 1
    · replace hF := ifT hF c_5
      refine lv_tableIn (tgt := 61) hx hb d_Main_told_19 (by rw [c_5]; decide) (by rw [c_5]; decide) (by rw [c_5]; rfl) (by decide) ?_
      refine lv_aload_n hx hb d_Main_told_61 rfl (lv_at hl 0 rfl) ?_
      refine r_get (v := .int (s0.1 (27 + v1.toNatClampNeg) 5)) K hw i_Arm (sh_Arm (P_Arm_of g_3) (Nat.le_trans (Nat.le_of_ble_eq_true rfl) hn)) rfl 5 (by decide) w_158 rfl rfl rfl d_Main_told_62 ?_
      replace hF := sE1 hF
      subst hF
      exact r_iret K hw d_Main_told_65
    replace hF := ifF hF c_5
    by_cases c_6 : v2 = 2
    · replace hF := ifT hF c_6
      refine lv_tableIn (tgt := 66) hx hb d_Main_told_19 (by rw [c_6]; decide) (by rw [c_6]; decide) (by rw [c_6]; rfl) (by decide) ?_
      refine lv_aload_n hx hb d_Main_told_66 rfl (lv_at hl 0 rfl) ?_
      refine r_get (v := .int (s0.1 (27 + v1.toNatClampNeg) 0)) K hw i_Arm (sh_Arm (P_Arm_of g_3) (Nat.le_trans (Nat.le_of_ble_eq_true rfl) hn)) rfl 0 (by decide) w_143 rfl rfl rfl d_Main_told_67 ?_
      replace hF := sE1 hF
      subst hF
      exact r_iret K hw d_Main_told_70
    replace hF := ifF hF c_6
    by_cases c_7 : v2 = 3
    · replace hF := ifT hF c_7
      refine lv_tableIn (tgt := 71) hx hb d_Main_told_19 (by rw [c_7]; decide) (by rw [c_7]; decide) (by rw [c_7]; rfl) (by decide) ?_
      refine lv_aload_n hx hb d_Main_told_71 rfl (lv_at hl 0 rfl) ?_
      refine r_get (v := .int (s0.1 (27 + v1.toNatClampNeg) 1)) K hw i_Arm (sh_Arm (P_Arm_of g_3) (Nat.le_trans (Nat.le_of_ble_eq_true rfl) hn)) rfl 1 (by decide) w_146 rfl rfl rfl d_Main_told_72 ?_
      replace hF := sE1 hF
      subst hF
      exact r_iret K hw d_Main_told_75
    replace hF := ifF hF c_7
    by_cases c_8 : v2 = 4
    · replace hF := ifT hF c_8
      refine lv_tableIn (tgt := 76) hx hb d_Main_told_19 (by rw [c_8]; decide) (by rw [c_8]; decide) (by rw [c_8]; rfl) (by decide) ?_
      refine lv_aload_n hx hb d_Main_told_76 rfl (lv_at hl 0 rfl) ?_
      refine r_get (v := .int (s0.1 (27 + v1.toNatClampNeg) 2)) K hw i_Arm (sh_Arm (P_Arm_of g_3) (Nat.le_trans (Nat.le_of_ble_eq_true rfl) hn)) rfl 2 (by decide) w_149 rfl rfl rfl d_Main_told_77 ?_
      replace hF := sE1 hF
      subst hF
      exact r_iret K hw d_Main_told_80
    replace hF := ifF hF c_8
    by_cases c_9 : v2 = 5
    · replace hF := ifT hF c_9
      refine lv_tableIn (tgt := 81) hx hb d_Main_told_19 (by rw [c_9]; decide) (by rw [c_9]; decide) (by rw [c_9]; rfl) (by decide) ?_
      refine lv_aload_n hx hb d_Main_told_81 rfl (lv_at hl 0 rfl) ?_
      refine r_get (v := .int (s0.1 (27 + v1.toNatClampNeg) 3)) K hw i_Arm (sh_Arm (P_Arm_of g_3) (Nat.le_trans (Nat.le_of_ble_eq_true rfl) hn)) rfl 3 (by decide) w_152 rfl rfl rfl d_Main_told_82 ?_
      replace hF := sE1 hF
      subst hF
      exact r_iret K hw d_Main_told_85
    replace hF := ifF hF c_9
    have nc_4 : ¬ (v2).toInt = 0 := lv_neT c_4 rfl
    have nc_5 : ¬ (v2).toInt = 1 := lv_neT c_5 rfl
    have nc_6 : ¬ (v2).toInt = 2 := lv_neT c_6 rfl
    have nc_7 : ¬ (v2).toInt = 3 := lv_neT c_7 rfl
    have nc_8 : ¬ (v2).toInt = 4 := lv_neT c_8 rfl
    have nc_9 : ¬ (v2).toInt = 5 := lv_neT c_9 rfl
    refine lv_tableOut (tgt := 86) hx hb d_Main_told_19 (by omega) (by decide) ?_
    refine lv_bipush (v := -7) hx hb d_Main_told_86 (by decide) ?_
    replace hF := sE1 hF
    subst hF
    exact r_iret K hw d_Main_told_88
  · replace hF := ifN hF c_2
    refine lv_bipush (v := -5) hx hb d_Main_told_8 (by decide) ?_
    replace hF := sE1 hF
    subst hF
    exact r_iret K hw d_Main_told_10
end S_Main_told
noncomputable abbrev F_Main_told := F_Main_told_0
theorem c_Main_told {l : Launch} {D : va_G} {cA : Nat → ClassId} {ad : Nat → Nat} {s0 : St} {nC : Nat} (hn : 33 ≤ nC) {r : Int32} {v1 : Int32} {v2 : Int32}  (hF : F_Main_told s0 v1 v2 = (some r)) : MI l D cA ad (shC.take nC) y_Main_told (wT y_Main_told b_Main_told 4 (some .int)) rm_Main_told [.ref (ad 20), .int v1, .int v2] s0 r s0 := fun sz => m_start (Qc := fun A => QcI D cA ad (shC.take nC) A r s0) (by decide +kernel) w_715 (Nat.le_of_ble_eq_true rfl) (fun p e s m below meth c ls K hl hw => q_Main_told_0 hn s0 K _ _ _ _ _  hw hl hF)

/-! Bout.begin(LArm;LArm;LText;)V -/
abbrev b_Bout_begin : ByteArray := prog_3_method_2_code
def y_Bout_begin : MethodName := ⟨R_Bout, "begin", "(LArmAgainstArm$Arm;LArmAgainstArm$Arm;LArmAgainstArm$Text;)V"⟩
theorem a_Bout_begin : y_Bout_begin.cls = R_Bout ∧ y_Bout_begin.cls ≠ "java/lang/invoke/MethodHandle" ∧ y_Bout_begin.cls ≠ "java/lang/invoke/VarHandle" ∧ (parseMethodDescriptor y_Bout_begin.desc).map (fun d => d.parameters.length) = some 3 := by decide +kernel
abbrev rm_Bout_begin : Room := { frames := 1, cells := 0, slots := 0, locals := 21 }
theorem w_530 : Cond.fieldLink R_Bout 14 R_Bout "a" "LArmAgainstArm$Side;" ∈ TB := tb_in 530 (by decide +kernel) (by decide +kernel)
theorem w_736 : Cond.methodLink R_Bout 27 y_Side_begin ∈ TB := tb_in 736 (by decide +kernel) (by decide +kernel)
theorem w_533 : Cond.fieldLink R_Bout 20 R_Bout "b" "LArmAgainstArm$Side;" ∈ TB := tb_in 533 (by decide +kernel) (by decide +kernel)
theorem w_536 : Cond.fieldLink R_Bout 23 R_Bout "law" "LArmAgainstArm$Text;" ∈ TB := tb_in 536 (by decide +kernel) (by decide +kernel)
theorem w_538 : Cond.fieldLink R_Bout 30 R_Bout "angle" "I" ∈ TB := tb_in 538 (by decide +kernel) (by decide +kernel)
theorem w_541 : Cond.fieldLink R_Bout 34 R_Bout "tenth" "I" ∈ TB := tb_in 541 (by decide +kernel) (by decide +kernel)
theorem w_544 : Cond.fieldLink R_Bout 37 R_Bout "hurt" "I" ∈ TB := tb_in 544 (by decide +kernel) (by decide +kernel)
theorem w_546 : Cond.fieldLink R_Bout 40 R_Bout "watched" "Z" ∈ TB := tb_in 546 (by decide +kernel) (by decide +kernel)
theorem w_735 : Cond.code y_Bout_begin b_Bout_begin 4 none ∈ TB := tb_in 735 (by decide +kernel) (by decide +kernel)
theorem d_Bout_begin_0 : decode b_Bout_begin 0 = .ok (.aload_n 0, 1) := by decide +kernel
theorem d_Bout_begin_1 : decode b_Bout_begin 1 = .ok (.getfield 14, 3) := by decide +kernel
theorem d_Bout_begin_4 : decode b_Bout_begin 4 = .ok (.aload_n 1, 1) := by decide +kernel
theorem d_Bout_begin_5 : decode b_Bout_begin 5 = .ok (.invokevirtual 27, 3) := by decide +kernel
theorem d_Bout_begin_8 : decode b_Bout_begin 8 = .ok (.aload_n 0, 1) := by decide +kernel
theorem d_Bout_begin_9 : decode b_Bout_begin 9 = .ok (.getfield 20, 3) := by decide +kernel
theorem d_Bout_begin_12 : decode b_Bout_begin 12 = .ok (.aload_n 2, 1) := by decide +kernel
theorem d_Bout_begin_13 : decode b_Bout_begin 13 = .ok (.invokevirtual 27, 3) := by decide +kernel
theorem d_Bout_begin_16 : decode b_Bout_begin 16 = .ok (.aload_n 0, 1) := by decide +kernel
theorem d_Bout_begin_17 : decode b_Bout_begin 17 = .ok (.aload_n 3, 1) := by decide +kernel
theorem d_Bout_begin_18 : decode b_Bout_begin 18 = .ok (.putfield 23, 3) := by decide +kernel
theorem d_Bout_begin_21 : decode b_Bout_begin 21 = .ok (.aload_n 0, 1) := by decide +kernel
theorem d_Bout_begin_22 : decode b_Bout_begin 22 = .ok (.iconst 0, 1) := by decide +kernel
theorem d_Bout_begin_23 : decode b_Bout_begin 23 = .ok (.putfield 30, 3) := by decide +kernel
theorem d_Bout_begin_26 : decode b_Bout_begin 26 = .ok (.aload_n 0, 1) := by decide +kernel
theorem d_Bout_begin_27 : decode b_Bout_begin 27 = .ok (.iconst 0, 1) := by decide +kernel
theorem d_Bout_begin_28 : decode b_Bout_begin 28 = .ok (.putfield 34, 3) := by decide +kernel
theorem d_Bout_begin_31 : decode b_Bout_begin 31 = .ok (.aload_n 0, 1) := by decide +kernel
theorem d_Bout_begin_32 : decode b_Bout_begin 32 = .ok (.iconst 0, 1) := by decide +kernel
theorem d_Bout_begin_33 : decode b_Bout_begin 33 = .ok (.putfield 37, 3) := by decide +kernel
theorem d_Bout_begin_36 : decode b_Bout_begin 36 = .ok (.aload_n 0, 1) := by decide +kernel
theorem d_Bout_begin_37 : decode b_Bout_begin 37 = .ok (.iconst 0, 1) := by decide +kernel
theorem d_Bout_begin_38 : decode b_Bout_begin 38 = .ok (.putfield 40, 3) := by decide +kernel
theorem d_Bout_begin_41 : decode b_Bout_begin 41 = .ok (.return_, 1) := by decide +kernel
section S_Bout_begin
variable {p : Program} {l : Launch} {e : Env} {s : State} {m : MethodId} {args : Array Value} {below : List Frame} {meth : Method} {c : Code} {D : va_G} {cA : Nat → ClassId} {ad : Nat → Nat} {nC : Nat} {A : Nat → Prop} {τ : St}
noncomputable def F_Bout_begin_0 (s0 : St) (v1 : Nat) (v2 : Nat) (v3 : Nat) : St := (lt (F_Side_begin s0 42 v1) (fun s_1 => (lt (F_Side_begin s_1 44 v2) (fun s_2 => (lt (up2 s_2 41 2 v3) (fun s_3 => (lt (up1 s_3 41 3 (0 : Int32)) (fun s_4 => (lt (up1 s_4 41 4 (0 : Int32)) (fun s_5 => (lt (up1 s_5 41 5 (0 : Int32)) (fun s_6 => (lt (up1 s_6 41 6 (0 : Int32)) (fun s_7 => s_7))))))))))))))
set_option maxHeartbeats 4000000 in
set_option maxRecDepth 100000 in
theorem q_Bout_begin_0 (hn : 46 ≤ nC) (K : Fx p s m args meth c b_Bout_begin 4 R_Bout none)  : ∀ (H : Heap) (locs : List Loc) (ls : Array Slot) (s0 : St) (v1 : Nat) (v2 : Nat) (v3 : Nat) (g_v1 : P_Arm v1) (g_v2 : P_Arm v2) (g_v3 : P_Text v3), Wh D cA ad (shC.take nC) A s s0 H locs → lv_has ls 4 [(0, .ref (ad 41)), (1, .ref (ad v1)), (2, .ref (ad v2)), (3, .ref (ad v3))] → F_Bout_begin_0 s0 v1 v2 v3 = τ → W p l e rm_Bout_begin s m args below meth c H locs 0 0 (MQ below (QcV D cA ad (shC.take nC) A τ) args s 0 0 A) (F0 m 0 ls []) := by
  have hx := K.1.1; have hb := K.1.2.1
  intro H locs ls s0 v1 v2 v3 g_v1 g_v2 g_v3 hw hl hF
  unfold F_Bout_begin_0 at hF
  refine lv_aload_n hx hb d_Bout_begin_0 rfl (lv_at hl 0 rfl) ?_
  refine r_get (v := .ref (ad 42)) K hw i_Bout (sh_Bout (Nat.le_trans (Nat.le_of_ble_eq_true rfl) hn)) rfl 0 (by decide) w_530 rfl rfl rfl d_Bout_begin_1 ?_
  refine lv_aload_n hx hb d_Bout_begin_4 rfl (lv_at hl 1 rfl) ?_
  obtain ⟨s_1, e_s_1, hF⟩ := ltE hF
  refine r_callVV (As := [.ref (ad v1)]) (rest := []) K hw hl.1 (c_Side_begin (l := l) (D := D) (cA := cA) (ad := ad) (s0 := s0) (Nat.le_trans (Nat.le_of_ble_eq_true rfl) hn) (by decide) g_v1 e_s_1.symm) (sh_Side (by decide) (Nat.le_trans (Nat.le_of_ble_eq_true rfl) hn)) rfl (tb_gV w_736 w_661 w_662 w_78 w_663) a_Side_begin ⟨rfl, rfl, Nat.le_of_ble_eq_true rfl, Nat.le_of_ble_eq_true rfl⟩ rfl rfl (Nat.le_of_ble_eq_true rfl) d_Bout_begin_5 (fun H locs hw => ?_)
  refine lv_aload_n hx hb d_Bout_begin_8 rfl (lv_at hl 0 rfl) ?_
  refine r_get (v := .ref (ad 44)) K hw i_Bout (sh_Bout (Nat.le_trans (Nat.le_of_ble_eq_true rfl) hn)) rfl 1 (by decide) w_533 rfl rfl rfl d_Bout_begin_9 ?_
  refine lv_aload_n hx hb d_Bout_begin_12 rfl (lv_at hl 2 rfl) ?_
  obtain ⟨s_2, e_s_2, hF⟩ := ltE hF
  refine r_callVV (As := [.ref (ad v2)]) (rest := []) K hw hl.1 (c_Side_begin (l := l) (D := D) (cA := cA) (ad := ad) (s0 := s_1) (Nat.le_trans (Nat.le_of_ble_eq_true rfl) hn) (by decide) g_v2 e_s_2.symm) (sh_Side (by decide) (Nat.le_trans (Nat.le_of_ble_eq_true rfl) hn)) rfl (tb_gV w_736 w_661 w_662 w_78 w_663) a_Side_begin ⟨rfl, rfl, Nat.le_of_ble_eq_true rfl, Nat.le_of_ble_eq_true rfl⟩ rfl rfl (Nat.le_of_ble_eq_true rfl) d_Bout_begin_13 (fun H locs hw => ?_)
  refine lv_aload_n hx hb d_Bout_begin_16 rfl (lv_at hl 0 rfl) ?_
  refine lv_aload_n hx hb d_Bout_begin_17 rfl (lv_at hl 3 rfl) ?_
  refine r_putR K hw i_Bout t_Bout t_Bout_ok n_Bout (sh_Bout (Nat.le_trans (Nat.le_of_ble_eq_true rfl) hn)) rfl 2 (by decide) w_536 rfl rfl rfl rfl rfl d_Bout_begin_18 (fun s_3 f_s_3 H locs hw => ?_)
  replace hF := ltN hF f_s_3
  refine lv_aload_n hx hb d_Bout_begin_21 rfl (lv_at hl 0 rfl) ?_
  refine lv_iconst (v := 0) hx hb d_Bout_begin_22 (by decide) ?_
  refine r_putI K hw i_Bout t_Bout t_Bout_ok n_Bout (sh_Bout (Nat.le_trans (Nat.le_of_ble_eq_true rfl) hn)) rfl 3 (by decide) w_538 rfl rfl rfl rfl rfl d_Bout_begin_23 (fun s_4 f_s_4 H locs hw => ?_)
  replace hF := ltN hF f_s_4
  refine lv_aload_n hx hb d_Bout_begin_26 rfl (lv_at hl 0 rfl) ?_
  refine lv_iconst (v := 0) hx hb d_Bout_begin_27 (by decide) ?_
  refine r_putI K hw i_Bout t_Bout t_Bout_ok n_Bout (sh_Bout (Nat.le_trans (Nat.le_of_ble_eq_true rfl) hn)) rfl 4 (by decide) w_541 rfl rfl rfl rfl rfl d_Bout_begin_28 (fun s_5 f_s_5 H locs hw => ?_)
  replace hF := ltN hF f_s_5
  refine lv_aload_n hx hb d_Bout_begin_31 rfl (lv_at hl 0 rfl) ?_
  refine lv_iconst (v := 0) hx hb d_Bout_begin_32 (by decide) ?_
  refine r_putI K hw i_Bout t_Bout t_Bout_ok n_Bout (sh_Bout (Nat.le_trans (Nat.le_of_ble_eq_true rfl) hn)) rfl 5 (by decide) w_544 rfl rfl rfl rfl rfl d_Bout_begin_33 (fun s_6 f_s_6 H locs hw => ?_)
  replace hF := ltN hF f_s_6
  refine lv_aload_n hx hb d_Bout_begin_36 rfl (lv_at hl 0 rfl) ?_
  refine lv_iconst (v := 0) hx hb d_Bout_begin_37 (by decide) ?_
  refine r_putI K hw i_Bout t_Bout t_Bout_ok n_Bout (sh_Bout (Nat.le_trans (Nat.le_of_ble_eq_true rfl) hn)) rfl 6 (by decide) w_546 rfl rfl rfl rfl rfl d_Bout_begin_38 (fun s_7 f_s_7 H locs hw => ?_)
  replace hF := ltN hF f_s_7
  subst hF
  exact r_vret K hw d_Bout_begin_41
end S_Bout_begin
noncomputable abbrev F_Bout_begin := F_Bout_begin_0
theorem c_Bout_begin {l : Launch} {D : va_G} {cA : Nat → ClassId} {ad : Nat → Nat} {s0 τ : St} {nC : Nat} (hn : 46 ≤ nC) {v1 : Nat} {v2 : Nat} {v3 : Nat} (g_v1 : P_Arm v1) (g_v2 : P_Arm v2) (g_v3 : P_Text v3) (hF : F_Bout_begin s0 v1 v2 v3 = τ) : MV l D cA ad (shC.take nC) y_Bout_begin (wT y_Bout_begin b_Bout_begin 4 none) rm_Bout_begin [.ref (ad 41), .ref (ad v1), .ref (ad v2), .ref (ad v3)] s0 τ := fun sz => m_start (Qc := fun A => QcV D cA ad (shC.take nC) A τ) (by decide +kernel) w_735 (Nat.le_of_ble_eq_true rfl) (fun p e s m below meth c ls K hl hw => q_Bout_begin_0 hn K _ _ _ _ _ _ _ g_v1 g_v2 g_v3 hw hl hF)

/-! Main.opn(II)V -/
abbrev b_Main_opn : ByteArray := prog_1_method_46_code
def y_Main_opn : MethodName := ⟨R_Main, "\x6fpen", "(II)V"⟩
theorem a_Main_opn : y_Main_opn.cls = R_Main ∧ y_Main_opn.cls ≠ "java/lang/invoke/MethodHandle" ∧ y_Main_opn.cls ≠ "java/lang/invoke/VarHandle" ∧ (parseMethodDescriptor y_Main_opn.desc).map (fun d => d.parameters.length) = some 2 := by decide +kernel
abbrev rm_Main_opn : Room := { frames := 2, cells := 0, slots := 0, locals := 44 }
theorem w_732 : Cond.methodLink R_Main 307 y_Bout_begin ∈ TB := tb_in 732 (by decide +kernel) (by decide +kernel)
theorem w_733 : Cond.instanceMethod y_Bout_begin ∈ TB := tb_in 733 (by decide +kernel) (by decide +kernel)
theorem w_734 : Cond.selects R_Bout y_Bout_begin y_Bout_begin ∈ TB := tb_in 734 (by decide +kernel) (by decide +kernel)
theorem w_77 : Cond.initialized R_Bout ∈ TB := tb_in 77 (by decide +kernel) (by decide +kernel)
theorem w_731 : Cond.code y_Main_opn b_Main_opn 3 none ∈ TB := tb_in 731 (by decide +kernel) (by decide +kernel)
theorem d_Main_opn_0 : decode b_Main_opn 0 = .ok (.aload_n 0, 1) := by decide +kernel
theorem d_Main_opn_1 : decode b_Main_opn 1 = .ok (.getfield 86, 3) := by decide +kernel
theorem d_Main_opn_4 : decode b_Main_opn 4 = .ok (.aload_n 0, 1) := by decide +kernel
theorem d_Main_opn_5 : decode b_Main_opn 5 = .ok (.getfield 11, 3) := by decide +kernel
theorem d_Main_opn_8 : decode b_Main_opn 8 = .ok (.iload_n 1, 1) := by decide +kernel
theorem d_Main_opn_9 : decode b_Main_opn 9 = .ok (.aaload, 1) := by decide +kernel
theorem d_Main_opn_10 : decode b_Main_opn 10 = .ok (.aload_n 0, 1) := by decide +kernel
theorem d_Main_opn_11 : decode b_Main_opn 11 = .ok (.getfield 11, 3) := by decide +kernel
theorem d_Main_opn_14 : decode b_Main_opn 14 = .ok (.iload_n 2, 1) := by decide +kernel
theorem d_Main_opn_15 : decode b_Main_opn 15 = .ok (.aaload, 1) := by decide +kernel
theorem d_Main_opn_16 : decode b_Main_opn 16 = .ok (.aload_n 0, 1) := by decide +kernel
theorem d_Main_opn_17 : decode b_Main_opn 17 = .ok (.getfield 17, 3) := by decide +kernel
theorem d_Main_opn_20 : decode b_Main_opn 20 = .ok (.aload_n 0, 1) := by decide +kernel
theorem d_Main_opn_21 : decode b_Main_opn 21 = .ok (.getfield 102, 3) := by decide +kernel
theorem d_Main_opn_24 : decode b_Main_opn 24 = .ok (.aaload, 1) := by decide +kernel
theorem d_Main_opn_25 : decode b_Main_opn 25 = .ok (.invokevirtual 307, 3) := by decide +kernel
theorem d_Main_opn_28 : decode b_Main_opn 28 = .ok (.return_, 1) := by decide +kernel
section S_Main_opn
variable {p : Program} {l : Launch} {e : Env} {s : State} {m : MethodId} {args : Array Value} {below : List Frame} {meth : Method} {c : Code} {D : va_G} {cA : Nat → ClassId} {ad : Nat → Nat} {nC : Nat} {A : Nat → Prop} {τ : St}
noncomputable def F_Main_opn_0 (s0 : St) (v1 : Int32) (v2 : Int32) : Option St := (if inB v1 6 = true then (if inB v2 6 = true then (if inB (s0.1 20 4) 6 = true then (lt (F_Bout_begin s0 (27 + v1.toNatClampNeg) (27 + v2.toNatClampNeg) (8 + (s0.1 20 4).toNatClampNeg)) (fun s_4 => (some s_4))) else none) else none) else none)
set_option maxHeartbeats 4000000 in
set_option maxRecDepth 100000 in
theorem q_Main_opn_0 (hn : 46 ≤ nC) (K : Fx p s m args meth c b_Main_opn 3 R_Main none)  : ∀ (H : Heap) (locs : List Loc) (ls : Array Slot) (s0 : St) (v1 : Int32) (v2 : Int32), Wh D cA ad (shC.take nC) A s s0 H locs → lv_has ls 3 [(0, .ref (ad 20)), (1, .int v1), (2, .int v2)] → F_Main_opn_0 s0 v1 v2 = (some τ) → W p l e rm_Main_opn s m args below meth c H locs 0 0 (MQ below (QcV D cA ad (shC.take nC) A τ) args s 0 0 A) (F0 m 0 ls []) := by
  have hx := K.1.1; have hb := K.1.2.1
  intro H locs ls s0 v1 v2 hw hl hF
  unfold F_Main_opn_0 at hF
  refine lv_aload_n hx hb d_Main_opn_0 rfl (lv_at hl 0 rfl) ?_
  refine r_get (v := .ref (ad 41)) K hw i_Main (sh_Main (Nat.le_trans (Nat.le_of_ble_eq_true rfl) hn)) rfl 7 (by decide) w_605 rfl rfl rfl d_Main_opn_1 ?_
  refine lv_aload_n hx hb d_Main_opn_4 rfl (lv_at hl 0 rfl) ?_
  refine r_get (v := .ref (ad 21)) K hw i_Main (sh_Main (Nat.le_trans (Nat.le_of_ble_eq_true rfl) hn)) rfl 0 (by decide) w_598 rfl rfl rfl d_Main_opn_5 ?_
  refine lv_iload_n hx hb d_Main_opn_8 rfl (lv_at hl 1 rfl) ?_
  obtain ⟨g_1, hF⟩ := ifG hF
  refine r_aald (k := v1.toNatClampNeg) K hw (sh_a21 (Nat.le_trans (Nat.le_of_ble_eq_true rfl) hn)) (rfl : (TYS cA)[1]? = some (cA 1, _)) rfl (inB_vp g_1) d_Main_opn_9 ?_
  refine lv_aload_n hx hb d_Main_opn_10 rfl (lv_at hl 0 rfl) ?_
  refine r_get (v := .ref (ad 21)) K hw i_Main (sh_Main (Nat.le_trans (Nat.le_of_ble_eq_true rfl) hn)) rfl 0 (by decide) w_598 rfl rfl rfl d_Main_opn_11 ?_
  refine lv_iload_n hx hb d_Main_opn_14 rfl (lv_at hl 2 rfl) ?_
  obtain ⟨g_2, hF⟩ := ifG hF
  refine r_aald (k := v2.toNatClampNeg) K hw (sh_a21 (Nat.le_trans (Nat.le_of_ble_eq_true rfl) hn)) (rfl : (TYS cA)[1]? = some (cA 1, _)) rfl (inB_vp g_2) d_Main_opn_15 ?_
  refine lv_aload_n hx hb d_Main_opn_16 rfl (lv_at hl 0 rfl) ?_
  refine r_get (v := .ref (ad 22)) K hw i_Main (sh_Main (Nat.le_trans (Nat.le_of_ble_eq_true rfl) hn)) rfl 2 (by decide) w_600 rfl rfl rfl d_Main_opn_17 ?_
  refine lv_aload_n hx hb d_Main_opn_20 rfl (lv_at hl 0 rfl) ?_
  refine r_get (v := .int (s0.1 20 4)) K hw i_Main (sh_Main (Nat.le_trans (Nat.le_of_ble_eq_true rfl) hn)) rfl 4 (by decide) w_602 rfl rfl rfl d_Main_opn_21 ?_
  obtain ⟨g_3, hF⟩ := ifG hF
  refine r_aald (k := (s0.1 20 4).toNatClampNeg) K hw (sh_a22 (Nat.le_trans (Nat.le_of_ble_eq_true rfl) hn)) (rfl : (TYS cA)[2]? = some (cA 2, _)) rfl (inB_vp g_3) d_Main_opn_24 ?_
  obtain ⟨s_4, e_s_4, hF⟩ := ltE hF
  refine r_callVV (As := [.ref (ad (27 + v1.toNatClampNeg)), .ref (ad (27 + v2.toNatClampNeg)), .ref (ad (8 + (s0.1 20 4).toNatClampNeg))]) (rest := []) K hw hl.1 (c_Bout_begin (l := l) (D := D) (cA := cA) (ad := ad) (s0 := s0) (Nat.le_trans (Nat.le_of_ble_eq_true rfl) hn) (P_Arm_of g_1) (P_Arm_of g_2) (P_Text_of g_3) e_s_4.symm) (sh_Bout (Nat.le_trans (Nat.le_of_ble_eq_true rfl) hn)) rfl (tb_gV w_732 w_733 w_734 w_77 w_735) a_Bout_begin ⟨rfl, rfl, Nat.le_of_ble_eq_true rfl, Nat.le_of_ble_eq_true rfl⟩ rfl rfl (Nat.le_of_ble_eq_true rfl) d_Main_opn_25 (fun H locs hw => ?_)
  replace hF := sE1 hF
  subst hF
  exact r_vret K hw d_Main_opn_28
end S_Main_opn
noncomputable abbrev F_Main_opn := F_Main_opn_0
theorem c_Main_opn {l : Launch} {D : va_G} {cA : Nat → ClassId} {ad : Nat → Nat} {s0 τ : St} {nC : Nat} (hn : 46 ≤ nC) {v1 : Int32} {v2 : Int32}  (hF : F_Main_opn s0 v1 v2 = (some τ)) : MV l D cA ad (shC.take nC) y_Main_opn (wT y_Main_opn b_Main_opn 3 none) rm_Main_opn [.ref (ad 20), .int v1, .int v2] s0 τ := fun sz => m_start (Qc := fun A => QcV D cA ad (shC.take nC) A τ) (by decide +kernel) w_731 (Nat.le_of_ble_eq_true rfl) (fun p e s m below meth c ls K hl hw => q_Main_opn_0 hn K _ _ _ _ _ _  hw hl hF)

/-! Main.areTwo(II)Z -/
abbrev b_Main_areTwo : ByteArray := prog_1_method_42_code
def y_Main_areTwo : MethodName := ⟨R_Main, "areTwo", "(II)Z"⟩
theorem a_Main_areTwo : y_Main_areTwo.cls = R_Main ∧ y_Main_areTwo.cls ≠ "java/lang/invoke/MethodHandle" ∧ y_Main_areTwo.cls ≠ "java/lang/invoke/VarHandle" ∧ (parseMethodDescriptor y_Main_areTwo.desc).map (fun d => d.parameters.length) = some 2 := by decide +kernel
abbrev rm_Main_areTwo : Room := { frames := 2, cells := 0, slots := 0, locals := 43 }
theorem w_727 : Cond.code y_Main_areTwo b_Main_areTwo 3 (some .boolean) ∈ TB := tb_in 727 (by decide +kernel) (by decide +kernel)
theorem d_Main_areTwo_0 : decode b_Main_areTwo 0 = .ok (.aload_n 0, 1) := by decide +kernel
theorem d_Main_areTwo_1 : decode b_Main_areTwo 1 = .ok (.iload_n 1, 1) := by decide +kernel
theorem d_Main_areTwo_2 : decode b_Main_areTwo 2 = .ok (.invokevirtual 120, 3) := by decide +kernel
theorem d_Main_areTwo_5 : decode b_Main_areTwo 5 = .ok (.ifCond .eq 20, 3) := by decide +kernel
theorem d_Main_areTwo_8 : decode b_Main_areTwo 8 = .ok (.aload_n 0, 1) := by decide +kernel
theorem d_Main_areTwo_9 : decode b_Main_areTwo 9 = .ok (.iload_n 2, 1) := by decide +kernel
theorem d_Main_areTwo_10 : decode b_Main_areTwo 10 = .ok (.invokevirtual 120, 3) := by decide +kernel
theorem d_Main_areTwo_13 : decode b_Main_areTwo 13 = .ok (.ifCond .eq 12, 3) := by decide +kernel
theorem d_Main_areTwo_16 : decode b_Main_areTwo 16 = .ok (.iload_n 1, 1) := by decide +kernel
theorem d_Main_areTwo_17 : decode b_Main_areTwo 17 = .ok (.iload_n 2, 1) := by decide +kernel
theorem d_Main_areTwo_18 : decode b_Main_areTwo 18 = .ok (.if_icmp .eq 7, 3) := by decide +kernel
theorem d_Main_areTwo_21 : decode b_Main_areTwo 21 = .ok (.iconst 1, 1) := by decide +kernel
theorem d_Main_areTwo_22 : decode b_Main_areTwo 22 = .ok (.goto 4, 3) := by decide +kernel
theorem d_Main_areTwo_25 : decode b_Main_areTwo 25 = .ok (.iconst 0, 1) := by decide +kernel
theorem d_Main_areTwo_26 : decode b_Main_areTwo 26 = .ok (.ireturn, 1) := by decide +kernel
section S_Main_areTwo
variable {p : Program} {l : Launch} {e : Env} {s : State} {m : MethodId} {args : Array Value} {below : List Frame} {meth : Method} {c : Code} {D : va_G} {cA : Nat → ClassId} {ad : Nat → Nat} {nC : Nat} {A : Nat → Prop} {r : Int32} {τ : St}
noncomputable def F_Main_areTwo_0 (s0 : St) (v1 : Int32) (v2 : Int32) : Option Int32 := (ob1 (F_Main_isArm s0 v1) (fun r_1 => (if r_1 = 0 then (some (0 : Int32)) else (ob1 (F_Main_isArm s0 v2) (fun r_3 => (if r_3 = 0 then (some (0 : Int32)) else (if v1 = v2 then (some (0 : Int32)) else (some (1 : Int32)))))))))
set_option maxHeartbeats 4000000 in
set_option maxRecDepth 100000 in
theorem q_Main_areTwo_0 (hn : 21 ≤ nC) (s0 : St) (K : Fx p s m args meth c b_Main_areTwo 3 R_Main (some .boolean))  : ∀ (H : Heap) (locs : List Loc) (ls : Array Slot) (v1 : Int32) (v2 : Int32), Wh D cA ad (shC.take nC) A s s0 H locs → lv_has ls 3 [(0, .ref (ad 20)), (1, .int v1), (2, .int v2)] → F_Main_areTwo_0 s0 v1 v2 = (some r) → W p l e rm_Main_areTwo s m args below meth c H locs 0 0 (MQ below (QcI D cA ad (shC.take nC) A r s0) args s 0 0 A) (F0 m 0 ls []) := by
  have hx := K.1.1; have hb := K.1.2.1
  intro H locs ls v1 v2 hw hl hF
  unfold F_Main_areTwo_0 at hF
  refine lv_aload_n hx hb d_Main_areTwo_0 rfl (lv_at hl 0 rfl) ?_
  refine lv_iload_n hx hb d_Main_areTwo_1 rfl (lv_at hl 1 rfl) ?_
  obtain ⟨r_1, h_r_1, hF⟩ := ob1E hF
  refine r_callVI (As := [.int v1]) (rest := []) K hw hl.1 (c_Main_isArm (l := l) (D := D) (cA := cA) (ad := ad) (s0 := s0) (Nat.le_trans (Nat.le_of_ble_eq_true rfl) hn)  h_r_1) (sh_Main (Nat.le_trans (Nat.le_of_ble_eq_true rfl) hn)) rfl (tb_gV w_656 w_658 w_13 w_63 w_659) a_Main_isArm ⟨rfl, rfl, Nat.le_of_ble_eq_true rfl, Nat.le_of_ble_eq_true rfl⟩ rfl rfl (Nat.le_of_ble_eq_true rfl) d_Main_areTwo_2 (fun H locs hw => ?_)
  refine lv_if_eq (tgt := 25) hx hb d_Main_areTwo_5 (by decide) (fun c_2 => ?_) (fun c_2 => ?_)
  · replace hF := ifT hF c_2
    refine lv_iconst (v := 0) hx hb d_Main_areTwo_25 (by decide) ?_
    replace hF := sE1 hF
    subst hF
    exact r_zret K hw (by decide) d_Main_areTwo_26
  · replace hF := ifF hF c_2
    refine lv_aload_n hx hb d_Main_areTwo_8 rfl (lv_at hl 0 rfl) ?_
    refine lv_iload_n hx hb d_Main_areTwo_9 rfl (lv_at hl 2 rfl) ?_
    obtain ⟨r_3, h_r_3, hF⟩ := ob1E hF
    refine r_callVI (As := [.int v2]) (rest := []) K hw hl.1 (c_Main_isArm (l := l) (D := D) (cA := cA) (ad := ad) (s0 := s0) (Nat.le_trans (Nat.le_of_ble_eq_true rfl) hn)  h_r_3) (sh_Main (Nat.le_trans (Nat.le_of_ble_eq_true rfl) hn)) rfl (tb_gV w_656 w_658 w_13 w_63 w_659) a_Main_isArm ⟨rfl, rfl, Nat.le_of_ble_eq_true rfl, Nat.le_of_ble_eq_true rfl⟩ rfl rfl (Nat.le_of_ble_eq_true rfl) d_Main_areTwo_10 (fun H locs hw => ?_)
    refine lv_if_eq (tgt := 25) hx hb d_Main_areTwo_13 (by decide) (fun c_4 => ?_) (fun c_4 => ?_)
    · replace hF := ifT hF c_4
      refine lv_iconst (v := 0) hx hb d_Main_areTwo_25 (by decide) ?_
      replace hF := sE1 hF
      subst hF
      exact r_zret K hw (by decide) d_Main_areTwo_26
    · replace hF := ifF hF c_4
      refine lv_iload_n hx hb d_Main_areTwo_16 rfl (lv_at hl 1 rfl) ?_
      refine lv_iload_n hx hb d_Main_areTwo_17 rfl (lv_at hl 2 rfl) ?_
      refine lv_icmp_eq (tgt := 25) hx hb d_Main_areTwo_18 (by decide) (fun c_5 => ?_) (fun c_5 => ?_)
      · replace hF := ifT hF c_5
        refine lv_iconst (v := 0) hx hb d_Main_areTwo_25 (by decide) ?_
        replace hF := sE1 hF
        subst hF
        exact r_zret K hw (by decide) d_Main_areTwo_26
      · replace hF := ifF hF c_5
        refine lv_iconst (v := 1) hx hb d_Main_areTwo_21 (by decide) ?_
        refine lv_goto (tgt := 26) hx hb d_Main_areTwo_22 (by decide) ?_
        replace hF := sE1 hF
        subst hF
        exact r_zret K hw (by decide) d_Main_areTwo_26
end S_Main_areTwo
noncomputable abbrev F_Main_areTwo := F_Main_areTwo_0
theorem c_Main_areTwo {l : Launch} {D : va_G} {cA : Nat → ClassId} {ad : Nat → Nat} {s0 : St} {nC : Nat} (hn : 21 ≤ nC) {r : Int32} {v1 : Int32} {v2 : Int32}  (hF : F_Main_areTwo s0 v1 v2 = (some r)) : MI l D cA ad (shC.take nC) y_Main_areTwo (wT y_Main_areTwo b_Main_areTwo 3 (some .boolean)) rm_Main_areTwo [.ref (ad 20), .int v1, .int v2] s0 r s0 := fun sz => m_start (Qc := fun A => QcI D cA ad (shC.take nC) A r s0) (by decide +kernel) w_727 (Nat.le_of_ble_eq_true rfl) (fun p e s m below meth c ls K hl hw => q_Main_areTwo_0 hn s0 K _ _ _ _ _  hw hl hF)

/-! Main.tellsTwo(I)Z -/
abbrev b_Main_tellsTwo : ByteArray := prog_1_method_43_code
def y_Main_tellsTwo : MethodName := ⟨R_Main, "tellsTwo", "(I)Z"⟩
theorem a_Main_tellsTwo : y_Main_tellsTwo.cls = R_Main ∧ y_Main_tellsTwo.cls ≠ "java/lang/invoke/MethodHandle" ∧ y_Main_tellsTwo.cls ≠ "java/lang/invoke/VarHandle" ∧ (parseMethodDescriptor y_Main_tellsTwo.desc).map (fun d => d.parameters.length) = some 1 := by decide +kernel
abbrev rm_Main_tellsTwo : Room := { frames := 3, cells := 0, slots := 0, locals := 65 }
theorem w_724 : Cond.methodLink R_Main 194 y_Main_areTwo ∈ TB := tb_in 724 (by decide +kernel) (by decide +kernel)
theorem w_726 : Cond.instanceMethod y_Main_areTwo ∈ TB := tb_in 726 (by decide +kernel) (by decide +kernel)
theorem w_17 : Cond.selects R_Main y_Main_areTwo y_Main_areTwo ∈ TB := tb_in 17 (by decide +kernel) (by decide +kernel)
theorem w_723 : Cond.code y_Main_tellsTwo b_Main_tellsTwo 2 (some .boolean) ∈ TB := tb_in 723 (by decide +kernel) (by decide +kernel)
theorem d_Main_tellsTwo_0 : decode b_Main_tellsTwo 0 = .ok (.iload_n 1, 1) := by decide +kernel
theorem d_Main_tellsTwo_1 : decode b_Main_tellsTwo 1 = .ok (.ifCond .lt 22, 3) := by decide +kernel
theorem d_Main_tellsTwo_4 : decode b_Main_tellsTwo 4 = .ok (.aload_n 0, 1) := by decide +kernel
theorem d_Main_tellsTwo_5 : decode b_Main_tellsTwo 5 = .ok (.iload_n 1, 1) := by decide +kernel
theorem d_Main_tellsTwo_6 : decode b_Main_tellsTwo 6 = .ok (.bipush 10, 2) := by decide +kernel
theorem d_Main_tellsTwo_8 : decode b_Main_tellsTwo 8 = .ok (.idiv, 1) := by decide +kernel
theorem d_Main_tellsTwo_9 : decode b_Main_tellsTwo 9 = .ok (.iload_n 1, 1) := by decide +kernel
theorem d_Main_tellsTwo_10 : decode b_Main_tellsTwo 10 = .ok (.bipush 10, 2) := by decide +kernel
theorem d_Main_tellsTwo_12 : decode b_Main_tellsTwo 12 = .ok (.irem, 1) := by decide +kernel
theorem d_Main_tellsTwo_13 : decode b_Main_tellsTwo 13 = .ok (.invokevirtual 194, 3) := by decide +kernel
theorem d_Main_tellsTwo_16 : decode b_Main_tellsTwo 16 = .ok (.ifCond .eq 7, 3) := by decide +kernel
theorem d_Main_tellsTwo_19 : decode b_Main_tellsTwo 19 = .ok (.iconst 1, 1) := by decide +kernel
theorem d_Main_tellsTwo_20 : decode b_Main_tellsTwo 20 = .ok (.goto 4, 3) := by decide +kernel
theorem d_Main_tellsTwo_23 : decode b_Main_tellsTwo 23 = .ok (.iconst 0, 1) := by decide +kernel
theorem d_Main_tellsTwo_24 : decode b_Main_tellsTwo 24 = .ok (.ireturn, 1) := by decide +kernel
section S_Main_tellsTwo
variable {p : Program} {l : Launch} {e : Env} {s : State} {m : MethodId} {args : Array Value} {below : List Frame} {meth : Method} {c : Code} {D : va_G} {cA : Nat → ClassId} {ad : Nat → Nat} {nC : Nat} {A : Nat → Prop} {r : Int32} {τ : St}
noncomputable def F_Main_tellsTwo_0 (s0 : St) (v1 : Int32) : Option Int32 := (if v1 < 0 then (some (0 : Int32)) else (ob1 (F_Main_areTwo s0 (v1 / (10 : Int32)) (jrem v1 (10 : Int32))) (fun r_2 => (if r_2 = 0 then (some (0 : Int32)) else (some (1 : Int32))))))
set_option maxHeartbeats 4000000 in
set_option maxRecDepth 100000 in
theorem q_Main_tellsTwo_0 (hn : 21 ≤ nC) (s0 : St) (K : Fx p s m args meth c b_Main_tellsTwo 2 R_Main (some .boolean))  : ∀ (H : Heap) (locs : List Loc) (ls : Array Slot) (v1 : Int32), Wh D cA ad (shC.take nC) A s s0 H locs → lv_has ls 2 [(0, .ref (ad 20)), (1, .int v1)] → F_Main_tellsTwo_0 s0 v1 = (some r) → W p l e rm_Main_tellsTwo s m args below meth c H locs 0 0 (MQ below (QcI D cA ad (shC.take nC) A r s0) args s 0 0 A) (F0 m 0 ls []) := by
  have hx := K.1.1; have hb := K.1.2.1
  intro H locs ls v1 hw hl hF
  unfold F_Main_tellsTwo_0 at hF
  refine lv_iload_n hx hb d_Main_tellsTwo_0 rfl (lv_at hl 1 rfl) ?_
  refine lv_if_lt (tgt := 23) hx hb d_Main_tellsTwo_1 (by decide) (fun c_1 => ?_) (fun c_1 => ?_)
  · replace hF := ifT hF c_1
    refine lv_iconst (v := 0) hx hb d_Main_tellsTwo_23 (by decide) ?_
    replace hF := sE1 hF
    subst hF
    exact r_zret K hw (by decide) d_Main_tellsTwo_24
  · replace hF := ifF hF c_1
    refine lv_aload_n hx hb d_Main_tellsTwo_4 rfl (lv_at hl 0 rfl) ?_
    refine lv_iload_n hx hb d_Main_tellsTwo_5 rfl (lv_at hl 1 rfl) ?_
    refine lv_bipush (v := 10) hx hb d_Main_tellsTwo_6 (by decide) ?_
    refine lv_idiv hx hb d_Main_tellsTwo_8 (by decide) ?_
    refine lv_iload_n hx hb d_Main_tellsTwo_9 rfl (lv_at hl 1 rfl) ?_
    refine lv_bipush (v := 10) hx hb d_Main_tellsTwo_10 (by decide) ?_
    refine lv_irem hx hb d_Main_tellsTwo_12 (by decide) ?_
    obtain ⟨r_2, h_r_2, hF⟩ := ob1E hF
    refine r_callVI (As := [.int (v1 / (10 : Int32)), .int (jrem v1 (10 : Int32))]) (rest := []) K hw hl.1 (c_Main_areTwo (l := l) (D := D) (cA := cA) (ad := ad) (s0 := s0) (Nat.le_trans (Nat.le_of_ble_eq_true rfl) hn)  h_r_2) (sh_Main (Nat.le_trans (Nat.le_of_ble_eq_true rfl) hn)) rfl (tb_gV w_724 w_726 w_17 w_63 w_727) a_Main_areTwo ⟨rfl, rfl, Nat.le_of_ble_eq_true rfl, Nat.le_of_ble_eq_true rfl⟩ rfl rfl (Nat.le_of_ble_eq_true rfl) d_Main_tellsTwo_13 (fun H locs hw => ?_)
    refine lv_if_eq (tgt := 23) hx hb d_Main_tellsTwo_16 (by decide) (fun c_3 => ?_) (fun c_3 => ?_)
    · replace hF := ifT hF c_3
      refine lv_iconst (v := 0) hx hb d_Main_tellsTwo_23 (by decide) ?_
      replace hF := sE1 hF
      subst hF
      exact r_zret K hw (by decide) d_Main_tellsTwo_24
    · replace hF := ifF hF c_3
      refine lv_iconst (v := 1) hx hb d_Main_tellsTwo_19 (by decide) ?_
      refine lv_goto (tgt := 24) hx hb d_Main_tellsTwo_20 (by decide) ?_
      replace hF := sE1 hF
      subst hF
      exact r_zret K hw (by decide) d_Main_tellsTwo_24
end S_Main_tellsTwo
noncomputable abbrev F_Main_tellsTwo := F_Main_tellsTwo_0
theorem c_Main_tellsTwo {l : Launch} {D : va_G} {cA : Nat → ClassId} {ad : Nat → Nat} {s0 : St} {nC : Nat} (hn : 21 ≤ nC) {r : Int32} {v1 : Int32}  (hF : F_Main_tellsTwo s0 v1 = (some r)) : MI l D cA ad (shC.take nC) y_Main_tellsTwo (wT y_Main_tellsTwo b_Main_tellsTwo 2 (some .boolean)) rm_Main_tellsTwo [.ref (ad 20), .int v1] s0 r s0 := fun sz => m_start (Qc := fun A => QcI D cA ad (shC.take nC) A r s0) (by decide +kernel) w_723 (Nat.le_of_ble_eq_true rfl) (fun p e s m below meth c ls K hl hw => q_Main_tellsTwo_0 hn s0 K _ _ _ _  hw hl hF)

/-! Bout.isOver()Z -/
abbrev b_Bout_isOver : ByteArray := prog_3_method_3_code
def y_Bout_isOver : MethodName := ⟨R_Bout, "isOve\x72", "()Z"⟩
theorem a_Bout_isOver : y_Bout_isOver.cls = R_Bout ∧ y_Bout_isOver.cls ≠ "java/lang/invoke/MethodHandle" ∧ y_Bout_isOver.cls ≠ "java/lang/invoke/VarHandle" ∧ (parseMethodDescriptor y_Bout_isOver.desc).map (fun d => d.parameters.length) = some 0 := by decide +kernel
abbrev rm_Bout_isOver : Room := { frames := 0, cells := 0, slots := 0, locals := 0 }
theorem w_744 : Cond.code y_Bout_isOver b_Bout_isOver 1 (some .boolean) ∈ TB := tb_in 744 (by decide +kernel) (by decide +kernel)
theorem d_Bout_isOver_0 : decode b_Bout_isOver 0 = .ok (.aload_n 0, 1) := by decide +kernel
theorem d_Bout_isOver_1 : decode b_Bout_isOver 1 = .ok (.getfield 30, 3) := by decide +kernel
theorem d_Bout_isOver_4 : decode b_Bout_isOver 4 = .ok (.bipush (-30), 2) := by decide +kernel
theorem d_Bout_isOver_6 : decode b_Bout_isOver 6 = .ok (.if_icmp .le 12, 3) := by decide +kernel
theorem d_Bout_isOver_9 : decode b_Bout_isOver 9 = .ok (.aload_n 0, 1) := by decide +kernel
theorem d_Bout_isOver_10 : decode b_Bout_isOver 10 = .ok (.getfield 30, 3) := by decide +kernel
theorem d_Bout_isOver_13 : decode b_Bout_isOver 13 = .ok (.bipush 30, 2) := by decide +kernel
theorem d_Bout_isOver_15 : decode b_Bout_isOver 15 = .ok (.if_icmp .lt 7, 3) := by decide +kernel
theorem d_Bout_isOver_18 : decode b_Bout_isOver 18 = .ok (.iconst 1, 1) := by decide +kernel
theorem d_Bout_isOver_19 : decode b_Bout_isOver 19 = .ok (.goto 4, 3) := by decide +kernel
theorem d_Bout_isOver_22 : decode b_Bout_isOver 22 = .ok (.iconst 0, 1) := by decide +kernel
theorem d_Bout_isOver_23 : decode b_Bout_isOver 23 = .ok (.ireturn, 1) := by decide +kernel
section S_Bout_isOver
variable {p : Program} {l : Launch} {e : Env} {s : State} {m : MethodId} {args : Array Value} {below : List Frame} {meth : Method} {c : Code} {D : va_G} {cA : Nat → ClassId} {ad : Nat → Nat} {nC : Nat} {A : Nat → Prop} {r : Int32} {τ : St}
noncomputable def F_Bout_isOver_0 (s0 : St) : Int32 := (if (s0.1 41 3) ≤ (-30 : Int32) then (1 : Int32) else (if (s0.1 41 3) < (30 : Int32) then (0 : Int32) else (1 : Int32)))
set_option maxHeartbeats 4000000 in
set_option maxRecDepth 100000 in
theorem q_Bout_isOver_0 (hn : 42 ≤ nC) (s0 : St) (K : Fx p s m args meth c b_Bout_isOver 1 R_Bout (some .boolean))  : ∀ (H : Heap) (locs : List Loc) (ls : Array Slot), Wh D cA ad (shC.take nC) A s s0 H locs → lv_has ls 1 [(0, .ref (ad 41))] → F_Bout_isOver_0 s0  = r → W p l e rm_Bout_isOver s m args below meth c H locs 0 0 (MQ below (QcI D cA ad (shC.take nC) A r s0) args s 0 0 A) (F0 m 0 ls []) := by
  have hx := K.1.1; have hb := K.1.2.1
  intro H locs ls  hw hl hF
  unfold F_Bout_isOver_0 at hF
  refine lv_aload_n hx hb d_Bout_isOver_0 rfl (lv_at hl 0 rfl) ?_
  refine r_get (v := .int (s0.1 41 3)) K hw i_Bout (sh_Bout (Nat.le_trans (Nat.le_of_ble_eq_true rfl) hn)) rfl 3 (by decide) w_538 rfl rfl rfl d_Bout_isOver_1 ?_
  refine lv_bipush (v := -30) hx hb d_Bout_isOver_4 (by decide) ?_
  refine lv_icmp_le (tgt := 18) hx hb d_Bout_isOver_6 (by decide) (fun c_1 => ?_) (fun c_1 => ?_)
  · replace hF := ifT hF c_1
    refine lv_iconst (v := 1) hx hb d_Bout_isOver_18 (by decide) ?_
    refine lv_goto (tgt := 23) hx hb d_Bout_isOver_19 (by decide) ?_
    subst hF
    exact r_zret K hw (by decide) d_Bout_isOver_23
  · replace hF := ifF hF c_1
    refine lv_aload_n hx hb d_Bout_isOver_9 rfl (lv_at hl 0 rfl) ?_
    refine r_get (v := .int (s0.1 41 3)) K hw i_Bout (sh_Bout (Nat.le_trans (Nat.le_of_ble_eq_true rfl) hn)) rfl 3 (by decide) w_538 rfl rfl rfl d_Bout_isOver_10 ?_
    refine lv_bipush (v := 30) hx hb d_Bout_isOver_13 (by decide) ?_
    refine lv_icmp_lt (tgt := 22) hx hb d_Bout_isOver_15 (by decide) (fun c_2 => ?_) (fun c_2 => ?_)
    · replace hF := ifT hF c_2
      refine lv_iconst (v := 0) hx hb d_Bout_isOver_22 (by decide) ?_
      subst hF
      exact r_zret K hw (by decide) d_Bout_isOver_23
    · replace hF := ifF hF c_2
      refine lv_iconst (v := 1) hx hb d_Bout_isOver_18 (by decide) ?_
      refine lv_goto (tgt := 23) hx hb d_Bout_isOver_19 (by decide) ?_
      subst hF
      exact r_zret K hw (by decide) d_Bout_isOver_23
end S_Bout_isOver
noncomputable abbrev F_Bout_isOver := F_Bout_isOver_0
theorem c_Bout_isOver {l : Launch} {D : va_G} {cA : Nat → ClassId} {ad : Nat → Nat} {s0 : St} {nC : Nat} (hn : 42 ≤ nC) {r : Int32}   (hF : F_Bout_isOver s0 = r) : MI l D cA ad (shC.take nC) y_Bout_isOver (wT y_Bout_isOver b_Bout_isOver 1 (some .boolean)) rm_Bout_isOver [.ref (ad 41)] s0 r s0 := fun sz => m_start (Qc := fun A => QcI D cA ad (shC.take nC) A r s0) (by decide +kernel) w_744 (Nat.le_of_ble_eq_true rfl) (fun p e s m below meth c ls K hl hw => q_Bout_isOver_0 hn s0 K _ _ _   hw hl hF)

/-! Side.hardAt(I)I -/
abbrev b_Side_hardAt : ByteArray := prog_8_method_4_code
def y_Side_hardAt : MethodName := ⟨R_Side, "hardAt", "(I)I"⟩
theorem a_Side_hardAt : y_Side_hardAt.cls = R_Side ∧ y_Side_hardAt.cls ≠ "java/lang/invoke/MethodHandle" ∧ y_Side_hardAt.cls ≠ "java/lang/invoke/VarHandle" ∧ (parseMethodDescriptor y_Side_hardAt.desc).map (fun d => d.parameters.length) = some 1 := by decide +kernel
abbrev rm_Side_hardAt : Room := { frames := 0, cells := 0, slots := 0, locals := 0 }
theorem w_748 : Cond.code y_Side_hardAt b_Side_hardAt 2 (some .int) ∈ TB := tb_in 748 (by decide +kernel) (by decide +kernel)
theorem d_Side_hardAt_0 : decode b_Side_hardAt 0 = .ok (.iload_n 1, 1) := by decide +kernel
theorem d_Side_hardAt_1 : decode b_Side_hardAt 1 = .ok (.aload_n 0, 1) := by decide +kernel
theorem d_Side_hardAt_2 : decode b_Side_hardAt 2 = .ok (.getfield 35, 3) := by decide +kernel
theorem d_Side_hardAt_5 : decode b_Side_hardAt 5 = .ok (.if_icmp .ge 5, 3) := by decide +kernel
theorem d_Side_hardAt_8 : decode b_Side_hardAt 8 = .ok (.iconst 0, 1) := by decide +kernel
theorem d_Side_hardAt_9 : decode b_Side_hardAt 9 = .ok (.ireturn, 1) := by decide +kernel
theorem d_Side_hardAt_10 : decode b_Side_hardAt 10 = .ok (.iload_n 1, 1) := by decide +kernel
theorem d_Side_hardAt_11 : decode b_Side_hardAt 11 = .ok (.bipush 10, 2) := by decide +kernel
theorem d_Side_hardAt_13 : decode b_Side_hardAt 13 = .ok (.idiv, 1) := by decide +kernel
theorem d_Side_hardAt_14 : decode b_Side_hardAt 14 = .ok (.tableswitch 60 0 2 #[26, 38, 49], 26) := by decide +kernel
theorem d_Side_hardAt_40 : decode b_Side_hardAt 40 = .ok (.aload_n 0, 1) := by decide +kernel
theorem d_Side_hardAt_41 : decode b_Side_hardAt 41 = .ok (.getfield 31, 3) := by decide +kernel
theorem d_Side_hardAt_44 : decode b_Side_hardAt 44 = .ok (.sipush 1000, 3) := by decide +kernel
theorem d_Side_hardAt_47 : decode b_Side_hardAt 47 = .ok (.idiv, 1) := by decide +kernel
theorem d_Side_hardAt_48 : decode b_Side_hardAt 48 = .ok (.bipush 10, 2) := by decide +kernel
theorem d_Side_hardAt_50 : decode b_Side_hardAt 50 = .ok (.irem, 1) := by decide +kernel
theorem d_Side_hardAt_51 : decode b_Side_hardAt 51 = .ok (.ireturn, 1) := by decide +kernel
theorem d_Side_hardAt_52 : decode b_Side_hardAt 52 = .ok (.aload_n 0, 1) := by decide +kernel
theorem d_Side_hardAt_53 : decode b_Side_hardAt 53 = .ok (.getfield 31, 3) := by decide +kernel
theorem d_Side_hardAt_56 : decode b_Side_hardAt 56 = .ok (.bipush 100, 2) := by decide +kernel
theorem d_Side_hardAt_58 : decode b_Side_hardAt 58 = .ok (.idiv, 1) := by decide +kernel
theorem d_Side_hardAt_59 : decode b_Side_hardAt 59 = .ok (.bipush 10, 2) := by decide +kernel
theorem d_Side_hardAt_61 : decode b_Side_hardAt 61 = .ok (.irem, 1) := by decide +kernel
theorem d_Side_hardAt_62 : decode b_Side_hardAt 62 = .ok (.ireturn, 1) := by decide +kernel
theorem d_Side_hardAt_63 : decode b_Side_hardAt 63 = .ok (.aload_n 0, 1) := by decide +kernel
theorem d_Side_hardAt_64 : decode b_Side_hardAt 64 = .ok (.getfield 31, 3) := by decide +kernel
theorem d_Side_hardAt_67 : decode b_Side_hardAt 67 = .ok (.bipush 10, 2) := by decide +kernel
theorem d_Side_hardAt_69 : decode b_Side_hardAt 69 = .ok (.idiv, 1) := by decide +kernel
theorem d_Side_hardAt_70 : decode b_Side_hardAt 70 = .ok (.bipush 10, 2) := by decide +kernel
theorem d_Side_hardAt_72 : decode b_Side_hardAt 72 = .ok (.irem, 1) := by decide +kernel
theorem d_Side_hardAt_73 : decode b_Side_hardAt 73 = .ok (.ireturn, 1) := by decide +kernel
theorem d_Side_hardAt_74 : decode b_Side_hardAt 74 = .ok (.aload_n 0, 1) := by decide +kernel
theorem d_Side_hardAt_75 : decode b_Side_hardAt 75 = .ok (.getfield 31, 3) := by decide +kernel
theorem d_Side_hardAt_78 : decode b_Side_hardAt 78 = .ok (.bipush 10, 2) := by decide +kernel
theorem d_Side_hardAt_80 : decode b_Side_hardAt 80 = .ok (.irem, 1) := by decide +kernel
theorem d_Side_hardAt_81 : decode b_Side_hardAt 81 = .ok (.ireturn, 1) := by decide +kernel
section S_Side_hardAt
variable {p : Program} {l : Launch} {e : Env} {s : State} {m : MethodId} {args : Array Value} {below : List Frame} {meth : Method} {c : Code} {D : va_G} {cA : Nat → ClassId} {ad : Nat → Nat} {nC : Nat} {A : Nat → Prop} {r : Int32} {τ : St}
noncomputable def F_Side_hardAt_0 (s0 : St) (v0 : Nat) (v1 : Int32) : Int32 := (if (s0.1 v0 3) ≤ v1 then (if (v1 / (10 : Int32)) = 0 then (jrem ((s0.1 v0 2) / (1000 : Int32)) (10 : Int32)) else (if (v1 / (10 : Int32)) = 1 then (jrem ((s0.1 v0 2) / (100 : Int32)) (10 : Int32)) else (if (v1 / (10 : Int32)) = 2 then (jrem ((s0.1 v0 2) / (10 : Int32)) (10 : Int32)) else (jrem (s0.1 v0 2) (10 : Int32))))) else (0 : Int32))
set_option maxHeartbeats 4000000 in
set_option maxRecDepth 100000 in
theorem q_Side_hardAt_0 (hn : 45 ≤ nC) (s0 : St) (K : Fx p s m args meth c b_Side_hardAt 2 R_Side (some .int))  : ∀ (H : Heap) (locs : List Loc) (ls : Array Slot) (v0 : Nat) (v1 : Int32) (g_v0 : P_Side v0), Wh D cA ad (shC.take nC) A s s0 H locs → lv_has ls 2 [(0, .ref (ad v0)), (1, .int v1)] → F_Side_hardAt_0 s0 v0 v1 = r → W p l e rm_Side_hardAt s m args below meth c H locs 0 0 (MQ below (QcI D cA ad (shC.take nC) A r s0) args s 0 0 A) (F0 m 0 ls []) := by
  have hx := K.1.1; have hb := K.1.2.1
  intro H locs ls v0 v1 g_v0 hw hl hF
  unfold F_Side_hardAt_0 at hF
  refine lv_iload_n hx hb d_Side_hardAt_0 rfl (lv_at hl 1 rfl) ?_
  refine lv_aload_n hx hb d_Side_hardAt_1 rfl (lv_at hl 0 rfl) ?_
  refine r_get (v := .int (s0.1 v0 3)) K hw i_Side (sh_Side g_v0 (Nat.le_trans (Nat.le_of_ble_eq_true rfl) hn)) rfl 3 (by decide) w_516 rfl rfl rfl d_Side_hardAt_2 ?_
  refine lv_icmp_ge (tgt := 10) hx hb d_Side_hardAt_5 (by decide) (fun c_1 => ?_) (fun c_1 => ?_)
  · replace hF := ifT hF c_1
    refine lv_iload_n hx hb d_Side_hardAt_10 rfl (lv_at hl 1 rfl) ?_
    refine lv_bipush (v := 10) hx hb d_Side_hardAt_11 (by decide) ?_
    refine lv_idiv hx hb d_Side_hardAt_13 (by decide) ?_
    by_cases c_2 : (v1 / (10 : Int32)) = 0
    · replace hF := ifT hF c_2
      refine lv_tableIn (tgt := 40) hx hb d_Side_hardAt_14 (by rw [c_2]; decide) (by rw [c_2]; decide) (by rw [c_2]; rfl) (by decide) ?_
      refine lv_aload_n hx hb d_Side_hardAt_40 rfl (lv_at hl 0 rfl) ?_
      refine r_get (v := .int (s0.1 v0 2)) K hw i_Side (sh_Side g_v0 (Nat.le_trans (Nat.le_of_ble_eq_true rfl) hn)) rfl 2 (by decide) w_515 rfl rfl rfl d_Side_hardAt_41 ?_
      refine lv_sipush (v := 1000) hx hb d_Side_hardAt_44 (by decide) ?_
      refine lv_idiv hx hb d_Side_hardAt_47 (by decide) ?_
      refine lv_bipush (v := 10) hx hb d_Side_hardAt_48 (by decide) ?_
      refine lv_irem hx hb d_Side_hardAt_50 (by decide) ?_
      subst hF
      exact r_iret K hw d_Side_hardAt_51
    replace hF := ifF hF c_2
    by_cases c_3 : (v1 / (10 : Int32)) = 1
    · replace hF := ifT hF c_3
      refine lv_tableIn (tgt := 52) hx hb d_Side_hardAt_14 (by rw [c_3]; decide) (by rw [c_3]; decide) (by rw [c_3]; rfl) (by decide) ?_
      refine lv_aload_n hx hb d_Side_hardAt_52 rfl (lv_at hl 0 rfl) ?_
      refine r_get (v := .int (s0.1 v0 2)) K hw i_Side (sh_Side g_v0 (Nat.le_trans (Nat.le_of_ble_eq_true rfl) hn)) rfl 2 (by decide) w_515 rfl rfl rfl d_Side_hardAt_53 ?_
      refine lv_bipush (v := 100) hx hb d_Side_hardAt_56 (by decide) ?_
      refine lv_idiv hx hb d_Side_hardAt_58 (by decide) ?_
      refine lv_bipush (v := 10) hx hb d_Side_hardAt_59 (by decide) ?_
      refine lv_irem hx hb d_Side_hardAt_61 (by decide) ?_
      subst hF
      exact r_iret K hw d_Side_hardAt_62
    replace hF := ifF hF c_3
    by_cases c_4 : (v1 / (10 : Int32)) = 2
    · replace hF := ifT hF c_4
      refine lv_tableIn (tgt := 63) hx hb d_Side_hardAt_14 (by rw [c_4]; decide) (by rw [c_4]; decide) (by rw [c_4]; rfl) (by decide) ?_
      refine lv_aload_n hx hb d_Side_hardAt_63 rfl (lv_at hl 0 rfl) ?_
      refine r_get (v := .int (s0.1 v0 2)) K hw i_Side (sh_Side g_v0 (Nat.le_trans (Nat.le_of_ble_eq_true rfl) hn)) rfl 2 (by decide) w_515 rfl rfl rfl d_Side_hardAt_64 ?_
      refine lv_bipush (v := 10) hx hb d_Side_hardAt_67 (by decide) ?_
      refine lv_idiv hx hb d_Side_hardAt_69 (by decide) ?_
      refine lv_bipush (v := 10) hx hb d_Side_hardAt_70 (by decide) ?_
      refine lv_irem hx hb d_Side_hardAt_72 (by decide) ?_
      subst hF
      exact r_iret K hw d_Side_hardAt_73
    replace hF := ifF hF c_4
    have nc_2 : ¬ ((v1 / (10 : Int32))).toInt = 0 := lv_neT c_2 rfl
    have nc_3 : ¬ ((v1 / (10 : Int32))).toInt = 1 := lv_neT c_3 rfl
    have nc_4 : ¬ ((v1 / (10 : Int32))).toInt = 2 := lv_neT c_4 rfl
    refine lv_tableOut (tgt := 74) hx hb d_Side_hardAt_14 (by omega) (by decide) ?_
    refine lv_aload_n hx hb d_Side_hardAt_74 rfl (lv_at hl 0 rfl) ?_
    refine r_get (v := .int (s0.1 v0 2)) K hw i_Side (sh_Side g_v0 (Nat.le_trans (Nat.le_of_ble_eq_true rfl) hn)) rfl 2 (by decide) w_515 rfl rfl rfl d_Side_hardAt_75 ?_
    refine lv_bipush (v := 10) hx hb d_Side_hardAt_78 (by decide) ?_
    refine lv_irem hx hb d_Side_hardAt_80 (by decide) ?_
    subst hF
    exact r_iret K hw d_Side_hardAt_81
  · replace hF := ifF hF c_1
    refine lv_iconst (v := 0) hx hb d_Side_hardAt_8 (by decide) ?_
    subst hF
    exact r_iret K hw d_Side_hardAt_9
end S_Side_hardAt
noncomputable abbrev F_Side_hardAt := F_Side_hardAt_0
theorem c_Side_hardAt {l : Launch} {D : va_G} {cA : Nat → ClassId} {ad : Nat → Nat} {s0 : St} {nC : Nat} (hn : 45 ≤ nC) {r : Int32} {v0 : Nat} {v1 : Int32} (g_v0 : P_Side v0) (hF : F_Side_hardAt s0 v0 v1 = r) : MI l D cA ad (shC.take nC) y_Side_hardAt (wT y_Side_hardAt b_Side_hardAt 2 (some .int)) rm_Side_hardAt [.ref (ad v0), .int v1] s0 r s0 := fun sz => m_start (Qc := fun A => QcI D cA ad (shC.take nC) A r s0) (by decide +kernel) w_748 (Nat.le_of_ble_eq_true rfl) (fun p e s m below meth c ls K hl hw => q_Side_hardAt_0 hn s0 K _ _ _ _ _ g_v0 hw hl hF)

/-! Arm.forceOf(III)I -/
abbrev b_Arm_forceOf : ByteArray := prog_2_method_4_code
def y_Arm_forceOf : MethodName := ⟨R_Arm, "forceOf", "(III)I"⟩
theorem a_Arm_forceOf : y_Arm_forceOf.cls = R_Arm ∧ y_Arm_forceOf.cls ≠ "java/lang/invoke/MethodHandle" ∧ y_Arm_forceOf.cls ≠ "java/lang/invoke/VarHandle" ∧ (parseMethodDescriptor y_Arm_forceOf.desc).map (fun d => d.parameters.length) = some 3 := by decide +kernel
abbrev rm_Arm_forceOf : Room := { frames := 1, cells := 0, slots := 0, locals := 22 }
theorem w_758 : Cond.code y_Arm_forceOf b_Arm_forceOf 5 (some .int) ∈ TB := tb_in 758 (by decide +kernel) (by decide +kernel)
theorem nw_759 : Cond.methodLinkNest R_Arm 61 y_Main_bounded R_Main ∈ NWS := List.mem_of_getElem? (i := 8) (by decide +kernel)
theorem d_Arm_forceOf_0 : decode b_Arm_forceOf 0 = .ok (.iload_n 1, 1) := by decide +kernel
theorem d_Arm_forceOf_1 : decode b_Arm_forceOf 1 = .ok (.istore 4, 2) := by decide +kernel
theorem d_Arm_forceOf_3 : decode b_Arm_forceOf 3 = .ok (.aload_n 0, 1) := by decide +kernel
theorem d_Arm_forceOf_4 : decode b_Arm_forceOf 4 = .ok (.getfield 31, 3) := by decide +kernel
theorem d_Arm_forceOf_7 : decode b_Arm_forceOf 7 = .ok (.ifCond .eq 20, 3) := by decide +kernel
theorem d_Arm_forceOf_10 : decode b_Arm_forceOf 10 = .ok (.iload_n 2, 1) := by decide +kernel
theorem d_Arm_forceOf_11 : decode b_Arm_forceOf 11 = .ok (.bipush 12, 2) := by decide +kernel
theorem d_Arm_forceOf_13 : decode b_Arm_forceOf 13 = .ok (.if_icmp .le 14, 3) := by decide +kernel
theorem d_Arm_forceOf_16 : decode b_Arm_forceOf 16 = .ok (.iload 4, 2) := by decide +kernel
theorem d_Arm_forceOf_18 : decode b_Arm_forceOf 18 = .ok (.iconst 2, 1) := by decide +kernel
theorem d_Arm_forceOf_19 : decode b_Arm_forceOf 19 = .ok (.aload_n 0, 1) := by decide +kernel
theorem d_Arm_forceOf_20 : decode b_Arm_forceOf 20 = .ok (.getfield 18, 3) := by decide +kernel
theorem d_Arm_forceOf_23 : decode b_Arm_forceOf 23 = .ok (.imul, 1) := by decide +kernel
theorem d_Arm_forceOf_24 : decode b_Arm_forceOf 24 = .ok (.iadd, 1) := by decide +kernel
theorem d_Arm_forceOf_25 : decode b_Arm_forceOf 25 = .ok (.istore 4, 2) := by decide +kernel
theorem d_Arm_forceOf_27 : decode b_Arm_forceOf 27 = .ok (.aload_n 0, 1) := by decide +kernel
theorem d_Arm_forceOf_28 : decode b_Arm_forceOf 28 = .ok (.getfield 35, 3) := by decide +kernel
theorem d_Arm_forceOf_31 : decode b_Arm_forceOf 31 = .ok (.ifCond .eq 15, 3) := by decide +kernel
theorem d_Arm_forceOf_34 : decode b_Arm_forceOf 34 = .ok (.iload_n 3, 1) := by decide +kernel
theorem d_Arm_forceOf_35 : decode b_Arm_forceOf 35 = .ok (.ifCond .le 11, 3) := by decide +kernel
theorem d_Arm_forceOf_38 : decode b_Arm_forceOf 38 = .ok (.iload 4, 2) := by decide +kernel
theorem d_Arm_forceOf_40 : decode b_Arm_forceOf 40 = .ok (.iload_n 3, 1) := by decide +kernel
theorem d_Arm_forceOf_41 : decode b_Arm_forceOf 41 = .ok (.iconst 3, 1) := by decide +kernel
theorem d_Arm_forceOf_42 : decode b_Arm_forceOf 42 = .ok (.idiv, 1) := by decide +kernel
theorem d_Arm_forceOf_43 : decode b_Arm_forceOf 43 = .ok (.iadd, 1) := by decide +kernel
theorem d_Arm_forceOf_44 : decode b_Arm_forceOf 44 = .ok (.istore 4, 2) := by decide +kernel
theorem d_Arm_forceOf_46 : decode b_Arm_forceOf 46 = .ok (.aload_n 0, 1) := by decide +kernel
theorem d_Arm_forceOf_47 : decode b_Arm_forceOf 47 = .ok (.getfield 38, 3) := by decide +kernel
theorem d_Arm_forceOf_50 : decode b_Arm_forceOf 50 = .ok (.ifCond .eq 16, 3) := by decide +kernel
theorem d_Arm_forceOf_53 : decode b_Arm_forceOf 53 = .ok (.iload_n 3, 1) := by decide +kernel
theorem d_Arm_forceOf_54 : decode b_Arm_forceOf 54 = .ok (.ifCond .ge 12, 3) := by decide +kernel
theorem d_Arm_forceOf_57 : decode b_Arm_forceOf 57 = .ok (.iload 4, 2) := by decide +kernel
theorem d_Arm_forceOf_59 : decode b_Arm_forceOf 59 = .ok (.iload_n 3, 1) := by decide +kernel
theorem d_Arm_forceOf_60 : decode b_Arm_forceOf 60 = .ok (.ineg, 1) := by decide +kernel
theorem d_Arm_forceOf_61 : decode b_Arm_forceOf 61 = .ok (.iconst 2, 1) := by decide +kernel
theorem d_Arm_forceOf_62 : decode b_Arm_forceOf 62 = .ok (.idiv, 1) := by decide +kernel
theorem d_Arm_forceOf_63 : decode b_Arm_forceOf 63 = .ok (.iadd, 1) := by decide +kernel
theorem d_Arm_forceOf_64 : decode b_Arm_forceOf 64 = .ok (.istore 4, 2) := by decide +kernel
theorem d_Arm_forceOf_66 : decode b_Arm_forceOf 66 = .ok (.aload_n 0, 1) := by decide +kernel
theorem d_Arm_forceOf_67 : decode b_Arm_forceOf 67 = .ok (.getfield 41, 3) := by decide +kernel
theorem d_Arm_forceOf_70 : decode b_Arm_forceOf 70 = .ok (.ifCond .eq 27, 3) := by decide +kernel
theorem d_Arm_forceOf_73 : decode b_Arm_forceOf 73 = .ok (.iload_n 3, 1) := by decide +kernel
theorem d_Arm_forceOf_74 : decode b_Arm_forceOf 74 = .ok (.bipush (-2), 2) := by decide +kernel
theorem d_Arm_forceOf_76 : decode b_Arm_forceOf 76 = .ok (.aload_n 0, 1) := by decide +kernel
theorem d_Arm_forceOf_77 : decode b_Arm_forceOf 77 = .ok (.getfield 18, 3) := by decide +kernel
theorem d_Arm_forceOf_80 : decode b_Arm_forceOf 80 = .ok (.imul, 1) := by decide +kernel
theorem d_Arm_forceOf_81 : decode b_Arm_forceOf 81 = .ok (.if_icmp .ge 10, 3) := by decide +kernel
theorem d_Arm_forceOf_84 : decode b_Arm_forceOf 84 = .ok (.iload 4, 2) := by decide +kernel
theorem d_Arm_forceOf_86 : decode b_Arm_forceOf 86 = .ok (.iconst 2, 1) := by decide +kernel
theorem d_Arm_forceOf_87 : decode b_Arm_forceOf 87 = .ok (.idiv, 1) := by decide +kernel
theorem d_Arm_forceOf_88 : decode b_Arm_forceOf 88 = .ok (.goto 7, 3) := by decide +kernel
theorem d_Arm_forceOf_91 : decode b_Arm_forceOf 91 = .ok (.iload 4, 2) := by decide +kernel
theorem d_Arm_forceOf_93 : decode b_Arm_forceOf 93 = .ok (.iconst 5, 1) := by decide +kernel
theorem d_Arm_forceOf_94 : decode b_Arm_forceOf 94 = .ok (.iadd, 1) := by decide +kernel
theorem d_Arm_forceOf_95 : decode b_Arm_forceOf 95 = .ok (.istore 4, 2) := by decide +kernel
theorem d_Arm_forceOf_97 : decode b_Arm_forceOf 97 = .ok (.iload 4, 2) := by decide +kernel
theorem d_Arm_forceOf_99 : decode b_Arm_forceOf 99 = .ok (.iconst 0, 1) := by decide +kernel
theorem d_Arm_forceOf_100 : decode b_Arm_forceOf 100 = .ok (.sipush 400, 3) := by decide +kernel
theorem d_Arm_forceOf_103 : decode b_Arm_forceOf 103 = .ok (.invokestatic 61, 3) := by decide +kernel
theorem d_Arm_forceOf_106 : decode b_Arm_forceOf 106 = .ok (.ireturn, 1) := by decide +kernel
section S_Arm_forceOf
variable {p : Program} {l : Launch} {e : Env} {s : State} {m : MethodId} {args : Array Value} {below : List Frame} {meth : Method} {c : Code} {D : va_G} {cA : Nat → ClassId} {ad : Nat → Nat} {nC : Nat} {A : Nat → Prop} {r : Int32} {τ : St}
noncomputable def F_Arm_forceOf_97 (s0 : St) (v4 : Int32) : Int32 := (F_Main_bounded v4 (0 : Int32) (400 : Int32))
set_option maxHeartbeats 4000000 in
set_option maxRecDepth 100000 in
theorem q_Arm_forceOf_97 (hn : 33 ≤ nC) (s0 : St) (K : Fx p s m args meth c b_Arm_forceOf 5 R_Arm (some .int))  : ∀ (H : Heap) (locs : List Loc) (ls : Array Slot) (v4 : Int32), Wh D cA ad (shC.take nC) A s s0 H locs → lv_has ls 5 [(4, .int v4)] → F_Arm_forceOf_97 s0 v4 = r → W p l e rm_Arm_forceOf s m args below meth c H locs 0 0 (MQ below (QcI D cA ad (shC.take nC) A r s0) args s 0 0 A) (F0 m 97 ls []) := by
  have hx := K.1.1; have hb := K.1.2.1
  intro H locs ls v4 hw hl hF
  unfold F_Arm_forceOf_97 at hF
  refine lv_iload hx hb d_Arm_forceOf_97 (lv_at hl 0 rfl) ?_
  refine lv_iconst (v := 0) hx hb d_Arm_forceOf_99 (by decide) ?_
  refine lv_sipush (v := 400) hx hb d_Arm_forceOf_100 (by decide) ?_
  refine r_callNI (As := [.int v4, .int (0 : Int32), .int (400 : Int32)]) (rest := []) K hw hl.1 (c_Main_bounded (l := l) (D := D) (cA := cA) (ad := ad) (s0 := s0) (Nat.le_trans (Nat.le_of_ble_eq_true rfl) hn)  rfl) (nw_759) w_683 w_63 w_684 a_Main_bounded.2 ⟨rfl, rfl, Nat.le_of_ble_eq_true rfl, Nat.le_of_ble_eq_true rfl⟩ rfl rfl (Nat.le_of_ble_eq_true rfl) d_Arm_forceOf_103 (fun H locs hw => ?_)
  subst hF
  exact r_iret K hw d_Arm_forceOf_106
noncomputable def F_Arm_forceOf_95 (s0 : St) (t0 : Int32) : Int32 := (F_Arm_forceOf_97 s0 t0)
set_option maxHeartbeats 4000000 in
set_option maxRecDepth 100000 in
theorem q_Arm_forceOf_95 (hn : 33 ≤ nC) (s0 : St) (K : Fx p s m args meth c b_Arm_forceOf 5 R_Arm (some .int))  : ∀ (H : Heap) (locs : List Loc) (ls : Array Slot) (t0 : Int32), Wh D cA ad (shC.take nC) A s s0 H locs → lv_has ls 5 [] → F_Arm_forceOf_95 s0 t0 = r → W p l e rm_Arm_forceOf s m args below meth c H locs 0 0 (MQ below (QcI D cA ad (shC.take nC) A r s0) args s 0 0 A) (F0 m 95 ls [.int t0]) := by
  have hx := K.1.1; have hb := K.1.2.1
  intro H locs ls t0 hw hl hF
  unfold F_Arm_forceOf_95 at hF
  refine lv_istore (lv' := [(4, .int t0)]) hx hb d_Arm_forceOf_95 hl (by decide) rfl (fun ls hl => ?_)
  exact q_Arm_forceOf_97 hn s0 K _ _ _ _  hw (lv_sub hl [0] rfl) hF
noncomputable def F_Arm_forceOf_66 (s0 : St) (v0 : Nat) (v3 : Int32) (v4 : Int32) : Int32 := (if (s0.1 v0 9) = 0 then (F_Arm_forceOf_97 s0 v4) else (if ((-2 : Int32) * (s0.1 v0 2)) ≤ v3 then (F_Arm_forceOf_95 s0 (v4 + (5 : Int32))) else (F_Arm_forceOf_95 s0 (v4 / (2 : Int32)))))
set_option maxHeartbeats 4000000 in
set_option maxRecDepth 100000 in
theorem q_Arm_forceOf_66 (hn : 33 ≤ nC) (s0 : St) (K : Fx p s m args meth c b_Arm_forceOf 5 R_Arm (some .int))  : ∀ (H : Heap) (locs : List Loc) (ls : Array Slot) (v0 : Nat) (v3 : Int32) (v4 : Int32) (g_v0 : P_Arm v0), Wh D cA ad (shC.take nC) A s s0 H locs → lv_has ls 5 [(0, .ref (ad v0)), (3, .int v3), (4, .int v4)] → F_Arm_forceOf_66 s0 v0 v3 v4 = r → W p l e rm_Arm_forceOf s m args below meth c H locs 0 0 (MQ below (QcI D cA ad (shC.take nC) A r s0) args s 0 0 A) (F0 m 66 ls []) := by
  have hx := K.1.1; have hb := K.1.2.1
  intro H locs ls v0 v3 v4 g_v0 hw hl hF
  unfold F_Arm_forceOf_66 at hF
  refine lv_aload_n hx hb d_Arm_forceOf_66 rfl (lv_at hl 0 rfl) ?_
  refine r_get (v := .int (s0.1 v0 9)) K hw i_Arm (sh_Arm g_v0 (Nat.le_trans (Nat.le_of_ble_eq_true rfl) hn)) rfl 9 (by decide) w_162 rfl rfl rfl d_Arm_forceOf_67 ?_
  refine lv_if_eq (tgt := 97) hx hb d_Arm_forceOf_70 (by decide) (fun c_4 => ?_) (fun c_4 => ?_)
  · replace hF := ifT hF c_4
    exact q_Arm_forceOf_97 hn s0 K _ _ _ _  hw (lv_sub hl [2] rfl) hF
  · replace hF := ifF hF c_4
    refine lv_iload_n hx hb d_Arm_forceOf_73 rfl (lv_at hl 1 rfl) ?_
    refine lv_bipush (v := -2) hx hb d_Arm_forceOf_74 (by decide) ?_
    refine lv_aload_n hx hb d_Arm_forceOf_76 rfl (lv_at hl 0 rfl) ?_
    refine r_get (v := .int (s0.1 v0 2)) K hw i_Arm (sh_Arm g_v0 (Nat.le_trans (Nat.le_of_ble_eq_true rfl) hn)) rfl 2 (by decide) w_147 rfl rfl rfl d_Arm_forceOf_77 ?_
    refine lv_imul hx hb d_Arm_forceOf_80 ?_
    refine lv_icmp_ge (tgt := 91) hx hb d_Arm_forceOf_81 (by decide) (fun c_5 => ?_) (fun c_5 => ?_)
    · replace hF := ifT hF c_5
      refine lv_iload hx hb d_Arm_forceOf_91 (lv_at hl 2 rfl) ?_
      refine lv_iconst (v := 5) hx hb d_Arm_forceOf_93 (by decide) ?_
      refine lv_iadd hx hb d_Arm_forceOf_94 ?_
      exact q_Arm_forceOf_95 hn s0 K _ _ _ _  hw (lv_sub hl [] rfl) hF
    · replace hF := ifF hF c_5
      refine lv_iload hx hb d_Arm_forceOf_84 (lv_at hl 2 rfl) ?_
      refine lv_iconst (v := 2) hx hb d_Arm_forceOf_86 (by decide) ?_
      refine lv_idiv hx hb d_Arm_forceOf_87 (by decide) ?_
      refine lv_goto (tgt := 95) hx hb d_Arm_forceOf_88 (by decide) ?_
      exact q_Arm_forceOf_95 hn s0 K _ _ _ _  hw (lv_sub hl [] rfl) hF
noncomputable def F_Arm_forceOf_46 (s0 : St) (v0 : Nat) (v3 : Int32) (v4 : Int32) : Int32 := (if (s0.1 v0 8) = 0 then (F_Arm_forceOf_66 s0 v0 v3 v4) else (if 0 ≤ v3 then (F_Arm_forceOf_66 s0 v0 v3 v4) else (F_Arm_forceOf_66 s0 v0 v3 (v4 + ((-v3) / (2 : Int32))))))
set_option maxHeartbeats 4000000 in
set_option maxRecDepth 100000 in
theorem q_Arm_forceOf_46 (hn : 33 ≤ nC) (s0 : St) (K : Fx p s m args meth c b_Arm_forceOf 5 R_Arm (some .int))  : ∀ (H : Heap) (locs : List Loc) (ls : Array Slot) (v0 : Nat) (v3 : Int32) (v4 : Int32) (g_v0 : P_Arm v0), Wh D cA ad (shC.take nC) A s s0 H locs → lv_has ls 5 [(0, .ref (ad v0)), (3, .int v3), (4, .int v4)] → F_Arm_forceOf_46 s0 v0 v3 v4 = r → W p l e rm_Arm_forceOf s m args below meth c H locs 0 0 (MQ below (QcI D cA ad (shC.take nC) A r s0) args s 0 0 A) (F0 m 46 ls []) := by
  have hx := K.1.1; have hb := K.1.2.1
  intro H locs ls v0 v3 v4 g_v0 hw hl hF
  unfold F_Arm_forceOf_46 at hF
  refine lv_aload_n hx hb d_Arm_forceOf_46 rfl (lv_at hl 0 rfl) ?_
  refine r_get (v := .int (s0.1 v0 8)) K hw i_Arm (sh_Arm g_v0 (Nat.le_trans (Nat.le_of_ble_eq_true rfl) hn)) rfl 8 (by decide) w_161 rfl rfl rfl d_Arm_forceOf_47 ?_
  refine lv_if_eq (tgt := 66) hx hb d_Arm_forceOf_50 (by decide) (fun c_3 => ?_) (fun c_3 => ?_)
  · replace hF := ifT hF c_3
    exact q_Arm_forceOf_66 hn s0 K _ _ _ _ _ _ g_v0 hw (lv_sub hl [0, 1, 2] rfl) hF
  · replace hF := ifF hF c_3
    refine lv_iload_n hx hb d_Arm_forceOf_53 rfl (lv_at hl 1 rfl) ?_
    refine lv_if_ge (tgt := 66) hx hb d_Arm_forceOf_54 (by decide) (fun c_6 => ?_) (fun c_6 => ?_)
    · replace hF := ifT hF c_6
      exact q_Arm_forceOf_66 hn s0 K _ _ _ _ _ _ g_v0 hw (lv_sub hl [0, 1, 2] rfl) hF
    · replace hF := ifF hF c_6
      refine lv_iload hx hb d_Arm_forceOf_57 (lv_at hl 2 rfl) ?_
      refine lv_iload_n hx hb d_Arm_forceOf_59 rfl (lv_at hl 1 rfl) ?_
      refine lv_ineg hx hb d_Arm_forceOf_60 ?_
      refine lv_iconst (v := 2) hx hb d_Arm_forceOf_61 (by decide) ?_
      refine lv_idiv hx hb d_Arm_forceOf_62 (by decide) ?_
      refine lv_iadd hx hb d_Arm_forceOf_63 ?_
      refine lv_istore (lv' := [(4, .int (v4 + ((-v3) / (2 : Int32)))), (0, .ref (ad v0)), (3, .int v3)]) hx hb d_Arm_forceOf_64 hl (by decide) rfl (fun ls hl => ?_)
      exact q_Arm_forceOf_66 hn s0 K _ _ _ _ _ _ g_v0 hw (lv_sub hl [1, 2, 0] rfl) hF
noncomputable def F_Arm_forceOf_27 (s0 : St) (v0 : Nat) (v3 : Int32) (v4 : Int32) : Int32 := (if (s0.1 v0 7) = 0 then (F_Arm_forceOf_46 s0 v0 v3 v4) else (if v3 ≤ 0 then (F_Arm_forceOf_46 s0 v0 v3 v4) else (F_Arm_forceOf_46 s0 v0 v3 (v4 + (v3 / (3 : Int32))))))
set_option maxHeartbeats 4000000 in
set_option maxRecDepth 100000 in
theorem q_Arm_forceOf_27 (hn : 33 ≤ nC) (s0 : St) (K : Fx p s m args meth c b_Arm_forceOf 5 R_Arm (some .int))  : ∀ (H : Heap) (locs : List Loc) (ls : Array Slot) (v0 : Nat) (v3 : Int32) (v4 : Int32) (g_v0 : P_Arm v0), Wh D cA ad (shC.take nC) A s s0 H locs → lv_has ls 5 [(0, .ref (ad v0)), (3, .int v3), (4, .int v4)] → F_Arm_forceOf_27 s0 v0 v3 v4 = r → W p l e rm_Arm_forceOf s m args below meth c H locs 0 0 (MQ below (QcI D cA ad (shC.take nC) A r s0) args s 0 0 A) (F0 m 27 ls []) := by
  have hx := K.1.1; have hb := K.1.2.1
  intro H locs ls v0 v3 v4 g_v0 hw hl hF
  unfold F_Arm_forceOf_27 at hF
  refine lv_aload_n hx hb d_Arm_forceOf_27 rfl (lv_at hl 0 rfl) ?_
  refine r_get (v := .int (s0.1 v0 7)) K hw i_Arm (sh_Arm g_v0 (Nat.le_trans (Nat.le_of_ble_eq_true rfl) hn)) rfl 7 (by decide) w_160 rfl rfl rfl d_Arm_forceOf_28 ?_
  refine lv_if_eq (tgt := 46) hx hb d_Arm_forceOf_31 (by decide) (fun c_2 => ?_) (fun c_2 => ?_)
  · replace hF := ifT hF c_2
    exact q_Arm_forceOf_46 hn s0 K _ _ _ _ _ _ g_v0 hw (lv_sub hl [0, 1, 2] rfl) hF
  · replace hF := ifF hF c_2
    refine lv_iload_n hx hb d_Arm_forceOf_34 rfl (lv_at hl 1 rfl) ?_
    refine lv_if_le (tgt := 46) hx hb d_Arm_forceOf_35 (by decide) (fun c_7 => ?_) (fun c_7 => ?_)
    · replace hF := ifT hF c_7
      exact q_Arm_forceOf_46 hn s0 K _ _ _ _ _ _ g_v0 hw (lv_sub hl [0, 1, 2] rfl) hF
    · replace hF := ifF hF c_7
      refine lv_iload hx hb d_Arm_forceOf_38 (lv_at hl 2 rfl) ?_
      refine lv_iload_n hx hb d_Arm_forceOf_40 rfl (lv_at hl 1 rfl) ?_
      refine lv_iconst (v := 3) hx hb d_Arm_forceOf_41 (by decide) ?_
      refine lv_idiv hx hb d_Arm_forceOf_42 (by decide) ?_
      refine lv_iadd hx hb d_Arm_forceOf_43 ?_
      refine lv_istore (lv' := [(4, .int (v4 + (v3 / (3 : Int32)))), (0, .ref (ad v0)), (3, .int v3)]) hx hb d_Arm_forceOf_44 hl (by decide) rfl (fun ls hl => ?_)
      exact q_Arm_forceOf_46 hn s0 K _ _ _ _ _ _ g_v0 hw (lv_sub hl [1, 2, 0] rfl) hF
noncomputable def F_Arm_forceOf_0 (s0 : St) (v0 : Nat) (v1 : Int32) (v2 : Int32) (v3 : Int32) : Int32 := (if (s0.1 v0 6) = 0 then (F_Arm_forceOf_27 s0 v0 v3 v1) else (if v2 ≤ (12 : Int32) then (F_Arm_forceOf_27 s0 v0 v3 v1) else (F_Arm_forceOf_27 s0 v0 v3 (v1 + ((2 : Int32) * (s0.1 v0 2))))))
set_option maxHeartbeats 4000000 in
set_option maxRecDepth 100000 in
theorem q_Arm_forceOf_0 (hn : 33 ≤ nC) (s0 : St) (K : Fx p s m args meth c b_Arm_forceOf 5 R_Arm (some .int))  : ∀ (H : Heap) (locs : List Loc) (ls : Array Slot) (v0 : Nat) (v1 : Int32) (v2 : Int32) (v3 : Int32) (g_v0 : P_Arm v0), Wh D cA ad (shC.take nC) A s s0 H locs → lv_has ls 5 [(0, .ref (ad v0)), (1, .int v1), (2, .int v2), (3, .int v3)] → F_Arm_forceOf_0 s0 v0 v1 v2 v3 = r → W p l e rm_Arm_forceOf s m args below meth c H locs 0 0 (MQ below (QcI D cA ad (shC.take nC) A r s0) args s 0 0 A) (F0 m 0 ls []) := by
  have hx := K.1.1; have hb := K.1.2.1
  intro H locs ls v0 v1 v2 v3 g_v0 hw hl hF
  unfold F_Arm_forceOf_0 at hF
  refine lv_iload_n hx hb d_Arm_forceOf_0 rfl (lv_at hl 1 rfl) ?_
  refine lv_istore (lv' := [(4, .int v1), (0, .ref (ad v0)), (1, .int v1), (2, .int v2), (3, .int v3)]) hx hb d_Arm_forceOf_1 hl (by decide) rfl (fun ls hl => ?_)
  refine lv_aload_n hx hb d_Arm_forceOf_3 rfl (lv_at hl 1 rfl) ?_
  refine r_get (v := .int (s0.1 v0 6)) K hw i_Arm (sh_Arm g_v0 (Nat.le_trans (Nat.le_of_ble_eq_true rfl) hn)) rfl 6 (by decide) w_159 rfl rfl rfl d_Arm_forceOf_4 ?_
  refine lv_if_eq (tgt := 27) hx hb d_Arm_forceOf_7 (by decide) (fun c_1 => ?_) (fun c_1 => ?_)
  · replace hF := ifT hF c_1
    exact q_Arm_forceOf_27 hn s0 K _ _ _ _ _ _ g_v0 hw (lv_sub hl [1, 4, 0] rfl) hF
  · replace hF := ifF hF c_1
    refine lv_iload_n hx hb d_Arm_forceOf_10 rfl (lv_at hl 3 rfl) ?_
    refine lv_bipush (v := 12) hx hb d_Arm_forceOf_11 (by decide) ?_
    refine lv_icmp_le (tgt := 27) hx hb d_Arm_forceOf_13 (by decide) (fun c_8 => ?_) (fun c_8 => ?_)
    · replace hF := ifT hF c_8
      exact q_Arm_forceOf_27 hn s0 K _ _ _ _ _ _ g_v0 hw (lv_sub hl [1, 4, 0] rfl) hF
    · replace hF := ifF hF c_8
      refine lv_iload hx hb d_Arm_forceOf_16 (lv_at hl 0 rfl) ?_
      refine lv_iconst (v := 2) hx hb d_Arm_forceOf_18 (by decide) ?_
      refine lv_aload_n hx hb d_Arm_forceOf_19 rfl (lv_at hl 1 rfl) ?_
      refine r_get (v := .int (s0.1 v0 2)) K hw i_Arm (sh_Arm g_v0 (Nat.le_trans (Nat.le_of_ble_eq_true rfl) hn)) rfl 2 (by decide) w_147 rfl rfl rfl d_Arm_forceOf_20 ?_
      refine lv_imul hx hb d_Arm_forceOf_23 ?_
      refine lv_iadd hx hb d_Arm_forceOf_24 ?_
      refine lv_istore (lv' := [(4, .int (v1 + ((2 : Int32) * (s0.1 v0 2)))), (0, .ref (ad v0)), (1, .int v1), (2, .int v2), (3, .int v3)]) hx hb d_Arm_forceOf_25 hl (by decide) rfl (fun ls hl => ?_)
      exact q_Arm_forceOf_27 hn s0 K _ _ _ _ _ _ g_v0 hw (lv_sub hl [1, 4, 0] rfl) hF
end S_Arm_forceOf
noncomputable abbrev F_Arm_forceOf := F_Arm_forceOf_0
theorem c_Arm_forceOf {l : Launch} {D : va_G} {cA : Nat → ClassId} {ad : Nat → Nat} {s0 : St} {nC : Nat} (hn : 33 ≤ nC) {r : Int32} {v0 : Nat} {v1 : Int32} {v2 : Int32} {v3 : Int32} (g_v0 : P_Arm v0) (hF : F_Arm_forceOf s0 v0 v1 v2 v3 = r) : MI l D cA ad (shC.take nC) y_Arm_forceOf (wT y_Arm_forceOf b_Arm_forceOf 5 (some .int)) rm_Arm_forceOf [.ref (ad v0), .int v1, .int v2, .int v3] s0 r s0 := fun sz => m_start (Qc := fun A => QcI D cA ad (shC.take nC) A r s0) (by decide +kernel) w_758 (Nat.le_of_ble_eq_true rfl) (fun p e s m below meth c ls K hl hw => q_Arm_forceOf_0 hn s0 K _ _ _ _ _ _ _ g_v0 hw hl hF)

/-! Side.presses(LText;)I -/
abbrev b_Side_presses : ByteArray := prog_8_method_5_code
def y_Side_presses : MethodName := ⟨R_Side, "presses", "(LArmAgainstArm$Text;)I"⟩
theorem a_Side_presses : y_Side_presses.cls = R_Side ∧ y_Side_presses.cls ≠ "java/lang/invoke/MethodHandle" ∧ y_Side_presses.cls ≠ "java/lang/invoke/VarHandle" ∧ (parseMethodDescriptor y_Side_presses.desc).map (fun d => d.parameters.length) = some 1 := by decide +kernel
abbrev rm_Side_presses : Room := { frames := 3, cells := 0, slots := 0, locals := 70 }
theorem w_754 : Cond.methodLink R_Side 42 y_Text_says ∈ TB := tb_in 754 (by decide +kernel) (by decide +kernel)
theorem w_755 : Cond.methodLink R_Side 46 y_Arm_forceOf ∈ TB := tb_in 755 (by decide +kernel) (by decide +kernel)
theorem w_756 : Cond.instanceMethod y_Arm_forceOf ∈ TB := tb_in 756 (by decide +kernel) (by decide +kernel)
theorem w_757 : Cond.selects R_Arm y_Arm_forceOf y_Arm_forceOf ∈ TB := tb_in 757 (by decide +kernel) (by decide +kernel)
theorem w_753 : Cond.code y_Side_presses b_Side_presses 2 (some .int) ∈ TB := tb_in 753 (by decide +kernel) (by decide +kernel)
theorem d_Side_presses_0 : decode b_Side_presses 0 = .ok (.aload_n 0, 1) := by decide +kernel
theorem d_Side_presses_1 : decode b_Side_presses 1 = .ok (.getfield 17, 3) := by decide +kernel
theorem d_Side_presses_4 : decode b_Side_presses 4 = .ok (.aload_n 1, 1) := by decide +kernel
theorem d_Side_presses_5 : decode b_Side_presses 5 = .ok (.iconst 0, 1) := by decide +kernel
theorem d_Side_presses_6 : decode b_Side_presses 6 = .ok (.aload_n 0, 1) := by decide +kernel
theorem d_Side_presses_7 : decode b_Side_presses 7 = .ok (.getfield 11, 3) := by decide +kernel
theorem d_Side_presses_10 : decode b_Side_presses 10 = .ok (.invokevirtual 42, 3) := by decide +kernel
theorem d_Side_presses_13 : decode b_Side_presses 13 = .ok (.aload_n 0, 1) := by decide +kernel
theorem d_Side_presses_14 : decode b_Side_presses 14 = .ok (.getfield 27, 3) := by decide +kernel
theorem d_Side_presses_17 : decode b_Side_presses 17 = .ok (.aload_n 0, 1) := by decide +kernel
theorem d_Side_presses_18 : decode b_Side_presses 18 = .ok (.getfield 11, 3) := by decide +kernel
theorem d_Side_presses_21 : decode b_Side_presses 21 = .ok (.iconst 4, 1) := by decide +kernel
theorem d_Side_presses_22 : decode b_Side_presses 22 = .ok (.iaload, 1) := by decide +kernel
theorem d_Side_presses_23 : decode b_Side_presses 23 = .ok (.invokevirtual 46, 3) := by decide +kernel
theorem d_Side_presses_26 : decode b_Side_presses 26 = .ok (.ireturn, 1) := by decide +kernel
section S_Side_presses
variable {p : Program} {l : Launch} {e : Env} {s : State} {m : MethodId} {args : Array Value} {below : List Frame} {meth : Method} {c : Code} {D : va_G} {cA : Nat → ClassId} {ad : Nat → Nat} {nC : Nat} {A : Nat → Prop} {r : Int32} {τ : St}
noncomputable def F_Side_presses_0 (s0 : St) (v0 : Nat) (v1 : Nat) : Option (Int32 × St) := (if P_Arm (s0.2 v0 4) then (ob2 (F_Text_says s0 v1 (0 : Int32) (v0 + 1)) (fun r_2 s_3 => (some ((F_Arm_forceOf s_3 (s0.2 v0 4) r_2 (s_3.1 v0 1) (s_3.1 (v0 + 1) 4)), s_3)))) else none)
set_option maxHeartbeats 4000000 in
set_option maxRecDepth 100000 in
theorem q_Side_presses_0 (hn : 46 ≤ nC) (K : Fx p s m args meth c b_Side_presses 2 R_Side (some .int))  : ∀ (H : Heap) (locs : List Loc) (ls : Array Slot) (s0 : St) (v0 : Nat) (v1 : Nat) (g_v0 : P_Side v0) (g_v1 : P_Text v1), Wh D cA ad (shC.take nC) A s s0 H locs → lv_has ls 2 [(0, .ref (ad v0)), (1, .ref (ad v1))] → F_Side_presses_0 s0 v0 v1 = (some (r, τ)) → W p l e rm_Side_presses s m args below meth c H locs 0 0 (MQ below (QcI D cA ad (shC.take nC) A r τ) args s 0 0 A) (F0 m 0 ls []) := by
  have hx := K.1.1; have hb := K.1.2.1
  intro H locs ls s0 v0 v1 g_v0 g_v1 hw hl hF
  unfold F_Side_presses_0 at hF
  refine lv_aload_n hx hb d_Side_presses_0 rfl (lv_at hl 0 rfl) ?_
  obtain ⟨g_1, hF⟩ := ifG hF
  refine r_get (v := .ref (ad (s0.2 v0 4))) K hw i_Side (sh_Side g_v0 (Nat.le_trans (Nat.le_of_ble_eq_true rfl) hn)) rfl 4 (by decide) w_518 rfl rfl rfl d_Side_presses_1 ?_
  refine lv_aload_n hx hb d_Side_presses_4 rfl (lv_at hl 1 rfl) ?_
  refine lv_iconst (v := 0) hx hb d_Side_presses_5 (by decide) ?_
  refine lv_aload_n hx hb d_Side_presses_6 rfl (lv_at hl 0 rfl) ?_
  refine r_get (v := .ref (ad (v0 + 1))) K hw i_Side (sh_Side g_v0 (Nat.le_trans (Nat.le_of_ble_eq_true rfl) hn)) rfl 0 (by decide) w_508 rfl rfl rfl d_Side_presses_7 ?_
  obtain ⟨r_2, s_3, h_s_3, hF⟩ := ob2E hF
  refine r_callVI (As := [.int (0 : Int32), .ref (ad (v0 + 1))]) (rest := [.ref (ad (s0.2 v0 4))]) K hw hl.1 (c_Text_says (l := l) (D := D) (cA := cA) (ad := ad) (s0 := s0) (Nat.le_trans (Nat.le_of_ble_eq_true rfl) hn) g_v1 (P_namesOf g_v0) h_s_3) (sh_Text g_v1 (Nat.le_trans (Nat.le_of_ble_eq_true rfl) hn)) rfl (tb_gV w_754 w_669 w_670 w_68 w_671) a_Text_says ⟨rfl, rfl, Nat.le_of_ble_eq_true rfl, Nat.le_of_ble_eq_true rfl⟩ rfl rfl (Nat.le_of_ble_eq_true rfl) d_Side_presses_10 (fun H locs hw => ?_)
  refine lv_aload_n hx hb d_Side_presses_13 rfl (lv_at hl 0 rfl) ?_
  refine r_get (v := .int (s_3.1 v0 1)) K hw i_Side (sh_Side g_v0 (Nat.le_trans (Nat.le_of_ble_eq_true rfl) hn)) rfl 1 (by decide) w_511 rfl rfl rfl d_Side_presses_14 ?_
  refine lv_aload_n hx hb d_Side_presses_17 rfl (lv_at hl 0 rfl) ?_
  refine r_get (v := .ref (ad (v0 + 1))) K hw i_Side (sh_Side g_v0 (Nat.le_trans (Nat.le_of_ble_eq_true rfl) hn)) rfl 0 (by decide) w_508 rfl rfl rfl d_Side_presses_18 ?_
  refine lv_iconst (v := 4) hx hb d_Side_presses_21 (by decide) ?_
  refine r_iald (k := 4) K hw (sh_namesOf g_v0 (Nat.le_trans (Nat.le_of_ble_eq_true rfl) hn)) (by decide) (inB_vp (by decide)) d_Side_presses_22 ?_
  refine r_callVI (As := [.int r_2, .int (s_3.1 v0 1), .int (s_3.1 (v0 + 1) 4)]) (rest := []) K hw hl.1 (c_Arm_forceOf (l := l) (D := D) (cA := cA) (ad := ad) (s0 := s_3) (Nat.le_trans (Nat.le_of_ble_eq_true rfl) hn) g_1 rfl) (sh_Arm g_1 (Nat.le_trans (Nat.le_of_ble_eq_true rfl) hn)) rfl (tb_gV w_755 w_756 w_757 w_66 w_758) a_Arm_forceOf ⟨rfl, rfl, Nat.le_of_ble_eq_true rfl, Nat.le_of_ble_eq_true rfl⟩ rfl rfl (Nat.le_of_ble_eq_true rfl) d_Side_presses_23 (fun H locs hw => ?_)
  obtain ⟨hF, hG⟩ := sE2 hF
  subst hF
  subst hG
  exact r_iret K hw d_Side_presses_26
end S_Side_presses
noncomputable abbrev F_Side_presses := F_Side_presses_0
theorem c_Side_presses {l : Launch} {D : va_G} {cA : Nat → ClassId} {ad : Nat → Nat} {s0 τ : St} {nC : Nat} (hn : 46 ≤ nC) {r : Int32} {v0 : Nat} {v1 : Nat} (g_v0 : P_Side v0) (g_v1 : P_Text v1) (hF : F_Side_presses s0 v0 v1 = (some (r, τ))) : MI l D cA ad (shC.take nC) y_Side_presses (wT y_Side_presses b_Side_presses 2 (some .int)) rm_Side_presses [.ref (ad v0), .ref (ad v1)] s0 r τ := fun sz => m_start (Qc := fun A => QcI D cA ad (shC.take nC) A r τ) (by decide +kernel) w_753 (Nat.le_of_ble_eq_true rfl) (fun p e s m below meth c ls K hl hw => q_Side_presses_0 hn K _ _ _ _ _ _ g_v0 g_v1 hw hl hF)

/-! Arm.spendsOf(II)I -/
abbrev b_Arm_spendsOf : ByteArray := prog_2_method_5_code
def y_Arm_spendsOf : MethodName := ⟨R_Arm, "spendsOf", "(II)I"⟩
theorem a_Arm_spendsOf : y_Arm_spendsOf.cls = R_Arm ∧ y_Arm_spendsOf.cls ≠ "java/lang/invoke/MethodHandle" ∧ y_Arm_spendsOf.cls ≠ "java/lang/invoke/VarHandle" ∧ (parseMethodDescriptor y_Arm_spendsOf.desc).map (fun d => d.parameters.length) = some 2 := by decide +kernel
abbrev rm_Arm_spendsOf : Room := { frames := 1, cells := 0, slots := 0, locals := 22 }
theorem w_769 : Cond.code y_Arm_spendsOf b_Arm_spendsOf 4 (some .int) ∈ TB := tb_in 769 (by decide +kernel) (by decide +kernel)
theorem d_Arm_spendsOf_0 : decode b_Arm_spendsOf 0 = .ok (.iload_n 1, 1) := by decide +kernel
theorem d_Arm_spendsOf_1 : decode b_Arm_spendsOf 1 = .ok (.istore_n 3, 1) := by decide +kernel
theorem d_Arm_spendsOf_2 : decode b_Arm_spendsOf 2 = .ok (.aload_n 0, 1) := by decide +kernel
theorem d_Arm_spendsOf_3 : decode b_Arm_spendsOf 3 = .ok (.getfield 35, 3) := by decide +kernel
theorem d_Arm_spendsOf_6 : decode b_Arm_spendsOf 6 = .ok (.ifCond .eq 11, 3) := by decide +kernel
theorem d_Arm_spendsOf_9 : decode b_Arm_spendsOf 9 = .ok (.iload_n 2, 1) := by decide +kernel
theorem d_Arm_spendsOf_10 : decode b_Arm_spendsOf 10 = .ok (.iconst 3, 1) := by decide +kernel
theorem d_Arm_spendsOf_11 : decode b_Arm_spendsOf 11 = .ok (.if_icmp .ne 6, 3) := by decide +kernel
theorem d_Arm_spendsOf_14 : decode b_Arm_spendsOf 14 = .ok (.iinc 3 1, 3) := by decide +kernel
theorem d_Arm_spendsOf_17 : decode b_Arm_spendsOf 17 = .ok (.aload_n 0, 1) := by decide +kernel
theorem d_Arm_spendsOf_18 : decode b_Arm_spendsOf 18 = .ok (.getfield 41, 3) := by decide +kernel
theorem d_Arm_spendsOf_21 : decode b_Arm_spendsOf 21 = .ok (.ifCond .eq 7, 3) := by decide +kernel
theorem d_Arm_spendsOf_24 : decode b_Arm_spendsOf 24 = .ok (.iload_n 3, 1) := by decide +kernel
theorem d_Arm_spendsOf_25 : decode b_Arm_spendsOf 25 = .ok (.iconst 2, 1) := by decide +kernel
theorem d_Arm_spendsOf_26 : decode b_Arm_spendsOf 26 = .ok (.imul, 1) := by decide +kernel
theorem d_Arm_spendsOf_27 : decode b_Arm_spendsOf 27 = .ok (.istore_n 3, 1) := by decide +kernel
theorem d_Arm_spendsOf_28 : decode b_Arm_spendsOf 28 = .ok (.iload_n 3, 1) := by decide +kernel
theorem d_Arm_spendsOf_29 : decode b_Arm_spendsOf 29 = .ok (.iconst 0, 1) := by decide +kernel
theorem d_Arm_spendsOf_30 : decode b_Arm_spendsOf 30 = .ok (.bipush 24, 2) := by decide +kernel
theorem d_Arm_spendsOf_32 : decode b_Arm_spendsOf 32 = .ok (.invokestatic 61, 3) := by decide +kernel
theorem d_Arm_spendsOf_35 : decode b_Arm_spendsOf 35 = .ok (.ireturn, 1) := by decide +kernel
section S_Arm_spendsOf
variable {p : Program} {l : Launch} {e : Env} {s : State} {m : MethodId} {args : Array Value} {below : List Frame} {meth : Method} {c : Code} {D : va_G} {cA : Nat → ClassId} {ad : Nat → Nat} {nC : Nat} {A : Nat → Prop} {r : Int32} {τ : St}
noncomputable def F_Arm_spendsOf_28 (s0 : St) (v3 : Int32) : Int32 := (F_Main_bounded v3 (0 : Int32) (24 : Int32))
set_option maxHeartbeats 4000000 in
set_option maxRecDepth 100000 in
theorem q_Arm_spendsOf_28 (hn : 33 ≤ nC) (s0 : St) (K : Fx p s m args meth c b_Arm_spendsOf 4 R_Arm (some .int))  : ∀ (H : Heap) (locs : List Loc) (ls : Array Slot) (v3 : Int32), Wh D cA ad (shC.take nC) A s s0 H locs → lv_has ls 4 [(3, .int v3)] → F_Arm_spendsOf_28 s0 v3 = r → W p l e rm_Arm_spendsOf s m args below meth c H locs 0 0 (MQ below (QcI D cA ad (shC.take nC) A r s0) args s 0 0 A) (F0 m 28 ls []) := by
  have hx := K.1.1; have hb := K.1.2.1
  intro H locs ls v3 hw hl hF
  unfold F_Arm_spendsOf_28 at hF
  refine lv_iload_n hx hb d_Arm_spendsOf_28 rfl (lv_at hl 0 rfl) ?_
  refine lv_iconst (v := 0) hx hb d_Arm_spendsOf_29 (by decide) ?_
  refine lv_bipush (v := 24) hx hb d_Arm_spendsOf_30 (by decide) ?_
  refine r_callNI (As := [.int v3, .int (0 : Int32), .int (24 : Int32)]) (rest := []) K hw hl.1 (c_Main_bounded (l := l) (D := D) (cA := cA) (ad := ad) (s0 := s0) (Nat.le_trans (Nat.le_of_ble_eq_true rfl) hn)  rfl) (nw_759) w_683 w_63 w_684 a_Main_bounded.2 ⟨rfl, rfl, Nat.le_of_ble_eq_true rfl, Nat.le_of_ble_eq_true rfl⟩ rfl rfl (Nat.le_of_ble_eq_true rfl) d_Arm_spendsOf_32 (fun H locs hw => ?_)
  subst hF
  exact r_iret K hw d_Arm_spendsOf_35
noncomputable def F_Arm_spendsOf_17 (s0 : St) (v0 : Nat) (v3 : Int32) : Int32 := (if (s0.1 v0 9) = 0 then (F_Arm_spendsOf_28 s0 v3) else (F_Arm_spendsOf_28 s0 (v3 * (2 : Int32))))
set_option maxHeartbeats 4000000 in
set_option maxRecDepth 100000 in
theorem q_Arm_spendsOf_17 (hn : 33 ≤ nC) (s0 : St) (K : Fx p s m args meth c b_Arm_spendsOf 4 R_Arm (some .int))  : ∀ (H : Heap) (locs : List Loc) (ls : Array Slot) (v0 : Nat) (v3 : Int32) (g_v0 : P_Arm v0), Wh D cA ad (shC.take nC) A s s0 H locs → lv_has ls 4 [(0, .ref (ad v0)), (3, .int v3)] → F_Arm_spendsOf_17 s0 v0 v3 = r → W p l e rm_Arm_spendsOf s m args below meth c H locs 0 0 (MQ below (QcI D cA ad (shC.take nC) A r s0) args s 0 0 A) (F0 m 17 ls []) := by
  have hx := K.1.1; have hb := K.1.2.1
  intro H locs ls v0 v3 g_v0 hw hl hF
  unfold F_Arm_spendsOf_17 at hF
  refine lv_aload_n hx hb d_Arm_spendsOf_17 rfl (lv_at hl 0 rfl) ?_
  refine r_get (v := .int (s0.1 v0 9)) K hw i_Arm (sh_Arm g_v0 (Nat.le_trans (Nat.le_of_ble_eq_true rfl) hn)) rfl 9 (by decide) w_162 rfl rfl rfl d_Arm_spendsOf_18 ?_
  refine lv_if_eq (tgt := 28) hx hb d_Arm_spendsOf_21 (by decide) (fun c_2 => ?_) (fun c_2 => ?_)
  · replace hF := ifT hF c_2
    exact q_Arm_spendsOf_28 hn s0 K _ _ _ _  hw (lv_sub hl [1] rfl) hF
  · replace hF := ifF hF c_2
    refine lv_iload_n hx hb d_Arm_spendsOf_24 rfl (lv_at hl 1 rfl) ?_
    refine lv_iconst (v := 2) hx hb d_Arm_spendsOf_25 (by decide) ?_
    refine lv_imul hx hb d_Arm_spendsOf_26 ?_
    refine lv_istore_n (lv' := [(3, .int (v3 * (2 : Int32))), (0, .ref (ad v0))]) hx hb d_Arm_spendsOf_27 rfl hl (by decide) rfl (fun ls hl => ?_)
    exact q_Arm_spendsOf_28 hn s0 K _ _ _ _  hw (lv_sub hl [0] rfl) hF
noncomputable def F_Arm_spendsOf_0 (s0 : St) (v0 : Nat) (v1 : Int32) (v2 : Int32) : Int32 := (if (s0.1 v0 7) = 0 then (F_Arm_spendsOf_17 s0 v0 v1) else (if ¬ v2 = (3 : Int32) then (F_Arm_spendsOf_17 s0 v0 v1) else (F_Arm_spendsOf_17 s0 v0 (v1 + 1))))
set_option maxHeartbeats 4000000 in
set_option maxRecDepth 100000 in
theorem q_Arm_spendsOf_0 (hn : 33 ≤ nC) (s0 : St) (K : Fx p s m args meth c b_Arm_spendsOf 4 R_Arm (some .int))  : ∀ (H : Heap) (locs : List Loc) (ls : Array Slot) (v0 : Nat) (v1 : Int32) (v2 : Int32) (g_v0 : P_Arm v0), Wh D cA ad (shC.take nC) A s s0 H locs → lv_has ls 4 [(0, .ref (ad v0)), (1, .int v1), (2, .int v2)] → F_Arm_spendsOf_0 s0 v0 v1 v2 = r → W p l e rm_Arm_spendsOf s m args below meth c H locs 0 0 (MQ below (QcI D cA ad (shC.take nC) A r s0) args s 0 0 A) (F0 m 0 ls []) := by
  have hx := K.1.1; have hb := K.1.2.1
  intro H locs ls v0 v1 v2 g_v0 hw hl hF
  unfold F_Arm_spendsOf_0 at hF
  refine lv_iload_n hx hb d_Arm_spendsOf_0 rfl (lv_at hl 1 rfl) ?_
  refine lv_istore_n (lv' := [(3, .int v1), (0, .ref (ad v0)), (1, .int v1), (2, .int v2)]) hx hb d_Arm_spendsOf_1 rfl hl (by decide) rfl (fun ls hl => ?_)
  refine lv_aload_n hx hb d_Arm_spendsOf_2 rfl (lv_at hl 1 rfl) ?_
  refine r_get (v := .int (s0.1 v0 7)) K hw i_Arm (sh_Arm g_v0 (Nat.le_trans (Nat.le_of_ble_eq_true rfl) hn)) rfl 7 (by decide) w_160 rfl rfl rfl d_Arm_spendsOf_3 ?_
  refine lv_if_eq (tgt := 17) hx hb d_Arm_spendsOf_6 (by decide) (fun c_1 => ?_) (fun c_1 => ?_)
  · replace hF := ifT hF c_1
    exact q_Arm_spendsOf_17 hn s0 K _ _ _ _ _ g_v0 hw (lv_sub hl [1, 0] rfl) hF
  · replace hF := ifF hF c_1
    refine lv_iload_n hx hb d_Arm_spendsOf_9 rfl (lv_at hl 3 rfl) ?_
    refine lv_iconst (v := 3) hx hb d_Arm_spendsOf_10 (by decide) ?_
    refine lv_icmp_ne (tgt := 17) hx hb d_Arm_spendsOf_11 (by decide) (fun c_3 => ?_) (fun c_3 => ?_)
    · replace hF := ifT hF c_3
      exact q_Arm_spendsOf_17 hn s0 K _ _ _ _ _ g_v0 hw (lv_sub hl [1, 0] rfl) hF
    · replace hF := ifN hF c_3
      refine lv_iinc (v := (v1 + 1)) (lv' := [(3, .int (v1 + 1)), (0, .ref (ad v0)), (1, .int v1), (2, .int v2)]) hx hb d_Arm_spendsOf_14 hl (k := 0) rfl rfl (by decide) rfl (fun ls hl => ?_)
      exact q_Arm_spendsOf_17 hn s0 K _ _ _ _ _ g_v0 hw (lv_sub hl [1, 0] rfl) hF
end S_Arm_spendsOf
noncomputable abbrev F_Arm_spendsOf := F_Arm_spendsOf_0
theorem c_Arm_spendsOf {l : Launch} {D : va_G} {cA : Nat → ClassId} {ad : Nat → Nat} {s0 : St} {nC : Nat} (hn : 33 ≤ nC) {r : Int32} {v0 : Nat} {v1 : Int32} {v2 : Int32} (g_v0 : P_Arm v0) (hF : F_Arm_spendsOf s0 v0 v1 v2 = r) : MI l D cA ad (shC.take nC) y_Arm_spendsOf (wT y_Arm_spendsOf b_Arm_spendsOf 4 (some .int)) rm_Arm_spendsOf [.ref (ad v0), .int v1, .int v2] s0 r s0 := fun sz => m_start (Qc := fun A => QcI D cA ad (shC.take nC) A r s0) (by decide +kernel) w_769 (Nat.le_of_ble_eq_true rfl) (fun p e s m below meth c ls K hl hw => q_Arm_spendsOf_0 hn s0 K _ _ _ _ _ _ g_v0 hw hl hF)

/-! Side.tires(LText;)V -/
abbrev b_Side_tires : ByteArray := prog_8_method_6_code
def y_Side_tires : MethodName := ⟨R_Side, "tires", "(LArmAgainstArm$Text;)V"⟩
theorem a_Side_tires : y_Side_tires.cls = R_Side ∧ y_Side_tires.cls ≠ "java/lang/invoke/MethodHandle" ∧ y_Side_tires.cls ≠ "java/lang/invoke/VarHandle" ∧ (parseMethodDescriptor y_Side_tires.desc).map (fun d => d.parameters.length) = some 1 := by decide +kernel
abbrev rm_Side_tires : Room := { frames := 3, cells := 0, slots := 0, locals := 70 }
theorem w_766 : Cond.methodLink R_Side 50 y_Arm_spendsOf ∈ TB := tb_in 766 (by decide +kernel) (by decide +kernel)
theorem w_767 : Cond.instanceMethod y_Arm_spendsOf ∈ TB := tb_in 767 (by decide +kernel) (by decide +kernel)
theorem w_768 : Cond.selects R_Arm y_Arm_spendsOf y_Arm_spendsOf ∈ TB := tb_in 768 (by decide +kernel) (by decide +kernel)
theorem w_765 : Cond.code y_Side_tires b_Side_tires 4 none ∈ TB := tb_in 765 (by decide +kernel) (by decide +kernel)
theorem nw_770 : Cond.methodLinkNest R_Side 54 y_Main_bounded R_Main ∈ NWS := List.mem_of_getElem? (i := 9) (by decide +kernel)
theorem d_Side_tires_0 : decode b_Side_tires 0 = .ok (.aload_n 0, 1) := by decide +kernel
theorem d_Side_tires_1 : decode b_Side_tires 1 = .ok (.getfield 11, 3) := by decide +kernel
theorem d_Side_tires_4 : decode b_Side_tires 4 = .ok (.iconst 3, 1) := by decide +kernel
theorem d_Side_tires_5 : decode b_Side_tires 5 = .ok (.iaload, 1) := by decide +kernel
theorem d_Side_tires_6 : decode b_Side_tires 6 = .ok (.istore_n 2, 1) := by decide +kernel
theorem d_Side_tires_7 : decode b_Side_tires 7 = .ok (.iload_n 2, 1) := by decide +kernel
theorem d_Side_tires_8 : decode b_Side_tires 8 = .ok (.ifCond .ne 7, 3) := by decide +kernel
theorem d_Side_tires_11 : decode b_Side_tires 11 = .ok (.iconst 1, 1) := by decide +kernel
theorem d_Side_tires_12 : decode b_Side_tires 12 = .ok (.goto 21, 3) := by decide +kernel
theorem d_Side_tires_15 : decode b_Side_tires 15 = .ok (.aload_n 0, 1) := by decide +kernel
theorem d_Side_tires_16 : decode b_Side_tires 16 = .ok (.getfield 17, 3) := by decide +kernel
theorem d_Side_tires_19 : decode b_Side_tires 19 = .ok (.aload_n 1, 1) := by decide +kernel
theorem d_Side_tires_20 : decode b_Side_tires 20 = .ok (.iconst 1, 1) := by decide +kernel
theorem d_Side_tires_21 : decode b_Side_tires 21 = .ok (.aload_n 0, 1) := by decide +kernel
theorem d_Side_tires_22 : decode b_Side_tires 22 = .ok (.getfield 11, 3) := by decide +kernel
theorem d_Side_tires_25 : decode b_Side_tires 25 = .ok (.invokevirtual 42, 3) := by decide +kernel
theorem d_Side_tires_28 : decode b_Side_tires 28 = .ok (.iload_n 2, 1) := by decide +kernel
theorem d_Side_tires_29 : decode b_Side_tires 29 = .ok (.invokevirtual 50, 3) := by decide +kernel
theorem d_Side_tires_32 : decode b_Side_tires 32 = .ok (.ineg, 1) := by decide +kernel
theorem d_Side_tires_33 : decode b_Side_tires 33 = .ok (.istore_n 3, 1) := by decide +kernel
theorem d_Side_tires_34 : decode b_Side_tires 34 = .ok (.aload_n 0, 1) := by decide +kernel
theorem d_Side_tires_35 : decode b_Side_tires 35 = .ok (.aload_n 0, 1) := by decide +kernel
theorem d_Side_tires_36 : decode b_Side_tires 36 = .ok (.getfield 27, 3) := by decide +kernel
theorem d_Side_tires_39 : decode b_Side_tires 39 = .ok (.iload_n 3, 1) := by decide +kernel
theorem d_Side_tires_40 : decode b_Side_tires 40 = .ok (.iadd, 1) := by decide +kernel
theorem d_Side_tires_41 : decode b_Side_tires 41 = .ok (.iconst 0, 1) := by decide +kernel
theorem d_Side_tires_42 : decode b_Side_tires 42 = .ok (.bipush 24, 2) := by decide +kernel
theorem d_Side_tires_44 : decode b_Side_tires 44 = .ok (.invokestatic 54, 3) := by decide +kernel
theorem d_Side_tires_47 : decode b_Side_tires 47 = .ok (.putfield 27, 3) := by decide +kernel
theorem d_Side_tires_50 : decode b_Side_tires 50 = .ok (.return_, 1) := by decide +kernel
section S_Side_tires
variable {p : Program} {l : Launch} {e : Env} {s : State} {m : MethodId} {args : Array Value} {below : List Frame} {meth : Method} {c : Code} {D : va_G} {cA : Nat → ClassId} {ad : Nat → Nat} {nC : Nat} {A : Nat → Prop} {τ : St}
noncomputable def F_Side_tires_33 (s0 : St) (v0 : Nat) (t0 : Int32) : Option St := (lt (up1 s0 v0 1 (F_Main_bounded ((s0.1 v0 1) + t0) (0 : Int32) (24 : Int32))) (fun s_5 => (some s_5)))
set_option maxHeartbeats 4000000 in
set_option maxRecDepth 100000 in
theorem q_Side_tires_33 (hn : 46 ≤ nC) (K : Fx p s m args meth c b_Side_tires 4 R_Side none)  : ∀ (H : Heap) (locs : List Loc) (ls : Array Slot) (s0 : St) (v0 : Nat) (t0 : Int32) (g_v0 : P_Side v0), Wh D cA ad (shC.take nC) A s s0 H locs → lv_has ls 4 [(0, .ref (ad v0))] → F_Side_tires_33 s0 v0 t0 = (some τ) → W p l e rm_Side_tires s m args below meth c H locs 0 0 (MQ below (QcV D cA ad (shC.take nC) A τ) args s 0 0 A) (F0 m 33 ls [.int t0]) := by
  have hx := K.1.1; have hb := K.1.2.1
  intro H locs ls s0 v0 t0 g_v0 hw hl hF
  unfold F_Side_tires_33 at hF
  refine lv_istore_n (lv' := [(3, .int t0), (0, .ref (ad v0))]) hx hb d_Side_tires_33 rfl hl (by decide) rfl (fun ls hl => ?_)
  refine lv_aload_n hx hb d_Side_tires_34 rfl (lv_at hl 1 rfl) ?_
  refine lv_aload_n hx hb d_Side_tires_35 rfl (lv_at hl 1 rfl) ?_
  refine r_get (v := .int (s0.1 v0 1)) K hw i_Side (sh_Side g_v0 (Nat.le_trans (Nat.le_of_ble_eq_true rfl) hn)) rfl 1 (by decide) w_511 rfl rfl rfl d_Side_tires_36 ?_
  refine lv_iload_n hx hb d_Side_tires_39 rfl (lv_at hl 0 rfl) ?_
  refine lv_iadd hx hb d_Side_tires_40 ?_
  refine lv_iconst (v := 0) hx hb d_Side_tires_41 (by decide) ?_
  refine lv_bipush (v := 24) hx hb d_Side_tires_42 (by decide) ?_
  refine r_callNI (As := [.int ((s0.1 v0 1) + t0), .int (0 : Int32), .int (24 : Int32)]) (rest := [.ref (ad v0)]) K hw hl.1 (c_Main_bounded (l := l) (D := D) (cA := cA) (ad := ad) (s0 := s0) (Nat.le_trans (Nat.le_of_ble_eq_true rfl) hn)  rfl) (nw_770) w_683 w_63 w_684 a_Main_bounded.2 ⟨rfl, rfl, Nat.le_of_ble_eq_true rfl, Nat.le_of_ble_eq_true rfl⟩ rfl rfl (Nat.le_of_ble_eq_true rfl) d_Side_tires_44 (fun H locs hw => ?_)
  refine r_putI K hw i_Side t_Side t_Side_ok n_Side (sh_Side g_v0 (Nat.le_trans (Nat.le_of_ble_eq_true rfl) hn)) rfl 1 (by decide) w_511 rfl rfl rfl rfl rfl d_Side_tires_47 (fun s_5 f_s_5 H locs hw => ?_)
  replace hF := ltN hF f_s_5
  replace hF := sE1 hF
  subst hF
  exact r_vret K hw d_Side_tires_50
noncomputable def F_Side_tires_0 (s0 : St) (v0 : Nat) (v1 : Nat) : Option St := (if ¬ (s0.1 (v0 + 1) 3) = 0 then (if P_Arm (s0.2 v0 4) then (ob2 (F_Text_says s0 v1 (1 : Int32) (v0 + 1)) (fun r_3 s_4 => (F_Side_tires_33 s_4 v0 (-(F_Arm_spendsOf s_4 (s0.2 v0 4) r_3 (s0.1 (v0 + 1) 3)))))) else none) else (F_Side_tires_33 s0 v0 (1 : Int32)))
set_option maxHeartbeats 4000000 in
set_option maxRecDepth 100000 in
theorem q_Side_tires_0 (hn : 46 ≤ nC) (K : Fx p s m args meth c b_Side_tires 4 R_Side none)  : ∀ (H : Heap) (locs : List Loc) (ls : Array Slot) (s0 : St) (v0 : Nat) (v1 : Nat) (g_v0 : P_Side v0) (g_v1 : P_Text v1), Wh D cA ad (shC.take nC) A s s0 H locs → lv_has ls 4 [(0, .ref (ad v0)), (1, .ref (ad v1))] → F_Side_tires_0 s0 v0 v1 = (some τ) → W p l e rm_Side_tires s m args below meth c H locs 0 0 (MQ below (QcV D cA ad (shC.take nC) A τ) args s 0 0 A) (F0 m 0 ls []) := by
  have hx := K.1.1; have hb := K.1.2.1
  intro H locs ls s0 v0 v1 g_v0 g_v1 hw hl hF
  unfold F_Side_tires_0 at hF
  refine lv_aload_n hx hb d_Side_tires_0 rfl (lv_at hl 0 rfl) ?_
  refine r_get (v := .ref (ad (v0 + 1))) K hw i_Side (sh_Side g_v0 (Nat.le_trans (Nat.le_of_ble_eq_true rfl) hn)) rfl 0 (by decide) w_508 rfl rfl rfl d_Side_tires_1 ?_
  refine lv_iconst (v := 3) hx hb d_Side_tires_4 (by decide) ?_
  refine r_iald (k := 3) K hw (sh_namesOf g_v0 (Nat.le_trans (Nat.le_of_ble_eq_true rfl) hn)) (by decide) (inB_vp (by decide)) d_Side_tires_5 ?_
  refine lv_istore_n (lv' := [(2, .int (s0.1 (v0 + 1) 3)), (0, .ref (ad v0)), (1, .ref (ad v1))]) hx hb d_Side_tires_6 rfl hl (by decide) rfl (fun ls hl => ?_)
  refine lv_iload_n hx hb d_Side_tires_7 rfl (lv_at hl 0 rfl) ?_
  refine lv_if_ne (tgt := 15) hx hb d_Side_tires_8 (by decide) (fun c_1 => ?_) (fun c_1 => ?_)
  · replace hF := ifT hF c_1
    refine lv_aload_n hx hb d_Side_tires_15 rfl (lv_at hl 1 rfl) ?_
    obtain ⟨g_2, hF⟩ := ifG hF
    refine r_get (v := .ref (ad (s0.2 v0 4))) K hw i_Side (sh_Side g_v0 (Nat.le_trans (Nat.le_of_ble_eq_true rfl) hn)) rfl 4 (by decide) w_518 rfl rfl rfl d_Side_tires_16 ?_
    refine lv_aload_n hx hb d_Side_tires_19 rfl (lv_at hl 2 rfl) ?_
    refine lv_iconst (v := 1) hx hb d_Side_tires_20 (by decide) ?_
    refine lv_aload_n hx hb d_Side_tires_21 rfl (lv_at hl 1 rfl) ?_
    refine r_get (v := .ref (ad (v0 + 1))) K hw i_Side (sh_Side g_v0 (Nat.le_trans (Nat.le_of_ble_eq_true rfl) hn)) rfl 0 (by decide) w_508 rfl rfl rfl d_Side_tires_22 ?_
    obtain ⟨r_3, s_4, h_s_4, hF⟩ := ob2E hF
    refine r_callVI (As := [.int (1 : Int32), .ref (ad (v0 + 1))]) (rest := [.ref (ad (s0.2 v0 4))]) K hw hl.1 (c_Text_says (l := l) (D := D) (cA := cA) (ad := ad) (s0 := s0) (Nat.le_trans (Nat.le_of_ble_eq_true rfl) hn) g_v1 (P_namesOf g_v0) h_s_4) (sh_Text g_v1 (Nat.le_trans (Nat.le_of_ble_eq_true rfl) hn)) rfl (tb_gV w_754 w_669 w_670 w_68 w_671) a_Text_says ⟨rfl, rfl, Nat.le_of_ble_eq_true rfl, Nat.le_of_ble_eq_true rfl⟩ rfl rfl (Nat.le_of_ble_eq_true rfl) d_Side_tires_25 (fun H locs hw => ?_)
    refine lv_iload_n hx hb d_Side_tires_28 rfl (lv_at hl 0 rfl) ?_
    refine r_callVI (As := [.int r_3, .int (s0.1 (v0 + 1) 3)]) (rest := []) K hw hl.1 (c_Arm_spendsOf (l := l) (D := D) (cA := cA) (ad := ad) (s0 := s_4) (Nat.le_trans (Nat.le_of_ble_eq_true rfl) hn) g_2 rfl) (sh_Arm g_2 (Nat.le_trans (Nat.le_of_ble_eq_true rfl) hn)) rfl (tb_gV w_766 w_767 w_768 w_66 w_769) a_Arm_spendsOf ⟨rfl, rfl, Nat.le_of_ble_eq_true rfl, Nat.le_of_ble_eq_true rfl⟩ rfl rfl (Nat.le_of_ble_eq_true rfl) d_Side_tires_29 (fun H locs hw => ?_)
    refine lv_ineg hx hb d_Side_tires_32 ?_
    exact q_Side_tires_33 hn K _ _ _ _ _ _ g_v0 hw (lv_sub hl [1] rfl) hF
  · replace hF := ifN hF c_1
    refine lv_iconst (v := 1) hx hb d_Side_tires_11 (by decide) ?_
    refine lv_goto (tgt := 33) hx hb d_Side_tires_12 (by decide) ?_
    exact q_Side_tires_33 hn K _ _ _ _ _ _ g_v0 hw (lv_sub hl [1] rfl) hF
end S_Side_tires
noncomputable abbrev F_Side_tires := F_Side_tires_0
theorem c_Side_tires {l : Launch} {D : va_G} {cA : Nat → ClassId} {ad : Nat → Nat} {s0 τ : St} {nC : Nat} (hn : 46 ≤ nC) {v0 : Nat} {v1 : Nat} (g_v0 : P_Side v0) (g_v1 : P_Text v1) (hF : F_Side_tires s0 v0 v1 = (some τ)) : MV l D cA ad (shC.take nC) y_Side_tires (wT y_Side_tires b_Side_tires 4 none) rm_Side_tires [.ref (ad v0), .ref (ad v1)] s0 τ := fun sz => m_start (Qc := fun A => QcV D cA ad (shC.take nC) A τ) (by decide +kernel) w_765 (Nat.le_of_ble_eq_true rfl) (fun p e s m below meth c ls K hl hw => q_Side_tires_0 hn K _ _ _ _ _ _ g_v0 g_v1 hw hl hF)
