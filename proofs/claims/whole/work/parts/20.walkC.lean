/-! Main.back()I -/
abbrev b_Main_back : ByteArray := prog_1_method_29_code
def y_Main_back : MethodName := ⟨R_Main, "back", "()I"⟩
theorem a_Main_back : y_Main_back.cls = R_Main ∧ y_Main_back.cls ≠ "java/lang/invoke/MethodHandle" ∧ y_Main_back.cls ≠ "java/lang/invoke/VarHandle" ∧ (parseMethodDescriptor y_Main_back.desc).map (fun d => d.parameters.length) = some 0 := by decide +kernel
abbrev rm_Main_back : Room := { frames := 0, cells := 0, slots := 0, locals := 0 }
theorem w_942 : Cond.code y_Main_back b_Main_back 2 (some .int) ∈ TB := tb_in 942 (by decide +kernel) (by decide +kernel)
theorem d_Main_back_0 : decode b_Main_back 0 = .ok (.aload_n 0, 1) := by decide +kernel
theorem d_Main_back_1 : decode b_Main_back 1 = .ok (.getfield 37, 3) := by decide +kernel
theorem d_Main_back_4 : decode b_Main_back 4 = .ok (.getfield 270, 3) := by decide +kernel
theorem d_Main_back_7 : decode b_Main_back 7 = .ok (.ifCond .ne 6, 3) := by decide +kernel
theorem d_Main_back_10 : decode b_Main_back 10 = .ok (.bipush (-3), 2) := by decide +kernel
theorem d_Main_back_12 : decode b_Main_back 12 = .ok (.ireturn, 1) := by decide +kernel
theorem d_Main_back_13 : decode b_Main_back 13 = .ok (.aload_n 0, 1) := by decide +kernel
theorem d_Main_back_14 : decode b_Main_back 14 = .ok (.aload_n 0, 1) := by decide +kernel
theorem d_Main_back_15 : decode b_Main_back 15 = .ok (.getfield 37, 3) := by decide +kernel
theorem d_Main_back_18 : decode b_Main_back 18 = .ok (.getfield 273, 3) := by decide +kernel
theorem d_Main_back_21 : decode b_Main_back 21 = .ok (.putfield 99, 3) := by decide +kernel
theorem d_Main_back_24 : decode b_Main_back 24 = .ok (.aload_n 0, 1) := by decide +kernel
theorem d_Main_back_25 : decode b_Main_back 25 = .ok (.aload_n 0, 1) := by decide +kernel
theorem d_Main_back_26 : decode b_Main_back 26 = .ok (.getfield 37, 3) := by decide +kernel
theorem d_Main_back_29 : decode b_Main_back 29 = .ok (.getfield 274, 3) := by decide +kernel
theorem d_Main_back_32 : decode b_Main_back 32 = .ok (.putfield 102, 3) := by decide +kernel
theorem d_Main_back_35 : decode b_Main_back 35 = .ok (.iconst 0, 1) := by decide +kernel
theorem d_Main_back_36 : decode b_Main_back 36 = .ok (.istore_n 1, 1) := by decide +kernel
theorem d_Main_back_37 : decode b_Main_back 37 = .ok (.iload_n 1, 1) := by decide +kernel
theorem d_Main_back_38 : decode b_Main_back 38 = .ok (.bipush 6, 2) := by decide +kernel
theorem d_Main_back_40 : decode b_Main_back 40 = .ok (.if_icmp .ge 45, 3) := by decide +kernel
theorem d_Main_back_43 : decode b_Main_back 43 = .ok (.aload_n 0, 1) := by decide +kernel
theorem d_Main_back_44 : decode b_Main_back 44 = .ok (.getfield 11, 3) := by decide +kernel
theorem d_Main_back_47 : decode b_Main_back 47 = .ok (.iload_n 1, 1) := by decide +kernel
theorem d_Main_back_48 : decode b_Main_back 48 = .ok (.aaload, 1) := by decide +kernel
theorem d_Main_back_49 : decode b_Main_back 49 = .ok (.aload_n 0, 1) := by decide +kernel
theorem d_Main_back_50 : decode b_Main_back 50 = .ok (.getfield 37, 3) := by decide +kernel
theorem d_Main_back_53 : decode b_Main_back 53 = .ok (.getfield 275, 3) := by decide +kernel
theorem d_Main_back_56 : decode b_Main_back 56 = .ok (.iload_n 1, 1) := by decide +kernel
theorem d_Main_back_57 : decode b_Main_back 57 = .ok (.iaload, 1) := by decide +kernel
theorem d_Main_back_58 : decode b_Main_back 58 = .ok (.putfield 152, 3) := by decide +kernel
theorem d_Main_back_61 : decode b_Main_back 61 = .ok (.aload_n 0, 1) := by decide +kernel
theorem d_Main_back_62 : decode b_Main_back 62 = .ok (.getfield 11, 3) := by decide +kernel
theorem d_Main_back_65 : decode b_Main_back 65 = .ok (.iload_n 1, 1) := by decide +kernel
theorem d_Main_back_66 : decode b_Main_back 66 = .ok (.aaload, 1) := by decide +kernel
theorem d_Main_back_67 : decode b_Main_back 67 = .ok (.aload_n 0, 1) := by decide +kernel
theorem d_Main_back_68 : decode b_Main_back 68 = .ok (.getfield 37, 3) := by decide +kernel
theorem d_Main_back_71 : decode b_Main_back 71 = .ok (.getfield 278, 3) := by decide +kernel
theorem d_Main_back_74 : decode b_Main_back 74 = .ok (.iload_n 1, 1) := by decide +kernel
theorem d_Main_back_75 : decode b_Main_back 75 = .ok (.iaload, 1) := by decide +kernel
theorem d_Main_back_76 : decode b_Main_back 76 = .ok (.putfield 156, 3) := by decide +kernel
theorem d_Main_back_79 : decode b_Main_back 79 = .ok (.iinc 1 1, 3) := by decide +kernel
theorem d_Main_back_82 : decode b_Main_back 82 = .ok (.goto (-45), 3) := by decide +kernel
theorem d_Main_back_85 : decode b_Main_back 85 = .ok (.aload_n 0, 1) := by decide +kernel
theorem d_Main_back_86 : decode b_Main_back 86 = .ok (.getfield 99, 3) := by decide +kernel
theorem d_Main_back_89 : decode b_Main_back 89 = .ok (.ireturn, 1) := by decide +kernel
section S_Main_back
variable {p : Program} {l : Launch} {e : Env} {s : State} {m : MethodId} {args : Array Value} {below : List Frame} {meth : Method} {c : Code} {D : va_G} {cA : Nat → ClassId} {ad : Nat → Nat} {A : Nat → Prop} {r : Int32} {τ : St}
def F_Main_back_37 : Nat → St → Int32 → Option (Int32 × St)
  | 0, _, _ => none
  | n + 1, s0, v1 => (if (6 : Int32) ≤ v1 then (some ((s0.1 0 1), s0)) else (if inB v1 6 = true then (if inB v1 6 = true then (lt (up1 s0 (24 + v1.toNatClampNeg) 4 (s0.1 21 v1.toNatClampNeg)) (fun s_7 => (if inB v1 6 = true then (if inB v1 6 = true then (lt (up1 s_7 (24 + v1.toNatClampNeg) 5 (s_7.1 22 v1.toNatClampNeg)) (fun s_10 => (F_Main_back_37 n s_10 (v1 + 1)))) else none) else none))) else none) else none))
set_option maxHeartbeats 4000000 in
set_option maxRecDepth 100000 in
theorem q_Main_back_37 (K : Fx p s m args meth c b_Main_back 2 R_Main (some .int))  : ∀ (n : Nat), ∀ (H : Heap) (locs : List Loc) (ls : Array Slot) (s0 : St) (v1 : Int32), Wh D cA ad shC A s s0 H locs → lv_has ls 2 [(0, .ref (ad 0)), (1, .int v1)] → F_Main_back_37 n s0 v1 = (some (r, τ)) → W p l e rm_Main_back s m args below meth c H locs 0 0 (MQ below (QcI D cA ad shC A r τ) args s 0 0 A) (F0 m 37 ls []) := by
  have hx := K.1.1; have hb := K.1.2.1
  intro n
  induction n with
  | zero =>
    intro H locs ls s0 v1 hw hl hF
    exact absurd hF (by rw [F_Main_back_37]; exact nofun)
  | succ n ih =>
    intro H locs ls s0 v1 hw hl hF
    rw [F_Main_back_37] at hF
    refine lv_iload_n hx hb d_Main_back_37 rfl (lv_at hl 1 rfl) ?_
    refine lv_bipush (v := 6) hx hb d_Main_back_38 (by decide) ?_
    refine lv_icmp_ge (tgt := 85) hx hb d_Main_back_40 (by decide) (fun c_4 => ?_) (fun c_4 => ?_)
    · replace hF := ifT hF c_4
      refine lv_aload_n hx hb d_Main_back_85 rfl (lv_at hl 0 rfl) ?_
      refine r_get (v := .int (s0.1 0 1)) K hw i_Main sh_Main rfl 1 (by decide) w_599 rfl rfl rfl d_Main_back_86 ?_
      obtain ⟨hF, hG⟩ := sE2 hF
      subst hF
      subst hG
      exact r_iret K hw d_Main_back_89
    · replace hF := ifF hF c_4
      refine lv_aload_n hx hb d_Main_back_43 rfl (lv_at hl 0 rfl) ?_
      refine r_get (v := .ref (ad 1)) K hw i_Main sh_Main rfl 0 (by decide) w_598 rfl rfl rfl d_Main_back_44 ?_
      refine lv_iload_n hx hb d_Main_back_47 rfl (lv_at hl 1 rfl) ?_
      obtain ⟨g_5, hF⟩ := ifG hF
      refine r_aald (k := v1.toNatClampNeg) K hw (show shC[1]? = some (.inr (.inr (1, 24, 6))) from rfl) (rfl : (TYS cA)[1]? = some (cA 1, _)) rfl (inB_vp g_5) d_Main_back_48 ?_
      refine lv_aload_n hx hb d_Main_back_49 rfl (lv_at hl 0 rfl) ?_
      refine r_get (v := .ref (ad 20)) K hw i_Main sh_Main rfl 10 (by decide) w_608 rfl rfl rfl d_Main_back_50 ?_
      refine r_get (v := .ref (ad 21)) K hw i_Image sh_Image rfl 0 (by decide) w_120 rfl rfl rfl d_Main_back_53 ?_
      refine lv_iload_n hx hb d_Main_back_56 rfl (lv_at hl 1 rfl) ?_
      obtain ⟨g_6, hF⟩ := ifG hF
      refine r_iald (k := v1.toNatClampNeg) K hw (show shC[21]? = some (.inr (.inl 6)) from rfl) rfl (inB_vp g_6) d_Main_back_57 ?_
      refine r_putI K hw i_Arm t_Arm t_Arm_ok n_Arm (sh_Arm (P_Arm_of g_5)) rfl 4 (by decide) w_155 rfl rfl rfl rfl rfl d_Main_back_58 (fun s_7 f_s_7 H locs hw => ?_)
      replace hF := ltN hF f_s_7
      refine lv_aload_n hx hb d_Main_back_61 rfl (lv_at hl 0 rfl) ?_
      refine r_get (v := .ref (ad 1)) K hw i_Main sh_Main rfl 0 (by decide) w_598 rfl rfl rfl d_Main_back_62 ?_
      refine lv_iload_n hx hb d_Main_back_65 rfl (lv_at hl 1 rfl) ?_
      obtain ⟨g_8, hF⟩ := ifG hF
      refine r_aald (k := v1.toNatClampNeg) K hw (show shC[1]? = some (.inr (.inr (1, 24, 6))) from rfl) (rfl : (TYS cA)[1]? = some (cA 1, _)) rfl (inB_vp g_8) d_Main_back_66 ?_
      refine lv_aload_n hx hb d_Main_back_67 rfl (lv_at hl 0 rfl) ?_
      refine r_get (v := .ref (ad 20)) K hw i_Main sh_Main rfl 10 (by decide) w_608 rfl rfl rfl d_Main_back_68 ?_
      refine r_get (v := .ref (ad 22)) K hw i_Image sh_Image rfl 1 (by decide) w_122 rfl rfl rfl d_Main_back_71 ?_
      refine lv_iload_n hx hb d_Main_back_74 rfl (lv_at hl 1 rfl) ?_
      obtain ⟨g_9, hF⟩ := ifG hF
      refine r_iald (k := v1.toNatClampNeg) K hw (show shC[22]? = some (.inr (.inl 6)) from rfl) rfl (inB_vp g_9) d_Main_back_75 ?_
      refine r_putI K hw i_Arm t_Arm t_Arm_ok n_Arm (sh_Arm (P_Arm_of g_8)) rfl 5 (by decide) w_158 rfl rfl rfl rfl rfl d_Main_back_76 (fun s_10 f_s_10 H locs hw => ?_)
      replace hF := ltN hF f_s_10
      refine lv_iinc (v := (v1 + 1)) (lv' := [(1, .int (v1 + 1)), (0, .ref (ad 0))]) hx hb d_Main_back_79 hl (k := 1) rfl rfl (by decide) rfl (fun ls hl => ?_)
      refine lv_goto (tgt := 37) hx hb d_Main_back_82 (by decide) ?_
      exact ih _ _ _ _ _  hw (lv_sub hl [1, 0] rfl) hF
def F_Main_back_0 (s0 : St) : Option (Int32 × St) := (if ¬ (s0.1 20 2) = 0 then (lt (up1 s0 0 1 (s0.1 20 3)) (fun s_2 => (lt (up1 s_2 0 4 (s_2.1 20 4)) (fun s_3 => (F_Main_back_37 FU s_3 (0 : Int32)))))) else (some ((-3 : Int32), s0)))
set_option maxHeartbeats 4000000 in
set_option maxRecDepth 100000 in
theorem q_Main_back_0 (K : Fx p s m args meth c b_Main_back 2 R_Main (some .int))  : ∀ (H : Heap) (locs : List Loc) (ls : Array Slot) (s0 : St), Wh D cA ad shC A s s0 H locs → lv_has ls 2 [(0, .ref (ad 0))] → F_Main_back_0 s0 = (some (r, τ)) → W p l e rm_Main_back s m args below meth c H locs 0 0 (MQ below (QcI D cA ad shC A r τ) args s 0 0 A) (F0 m 0 ls []) := by
  have hx := K.1.1; have hb := K.1.2.1
  intro H locs ls s0 hw hl hF
  unfold F_Main_back_0 at hF
  refine lv_aload_n hx hb d_Main_back_0 rfl (lv_at hl 0 rfl) ?_
  refine r_get (v := .ref (ad 20)) K hw i_Main sh_Main rfl 10 (by decide) w_608 rfl rfl rfl d_Main_back_1 ?_
  refine r_get (v := .int (s0.1 20 2)) K hw i_Image sh_Image rfl 2 (by decide) w_123 rfl rfl rfl d_Main_back_4 ?_
  refine lv_if_ne (tgt := 13) hx hb d_Main_back_7 (by decide) (fun c_1 => ?_) (fun c_1 => ?_)
  · replace hF := ifT hF c_1
    refine lv_aload_n hx hb d_Main_back_13 rfl (lv_at hl 0 rfl) ?_
    refine lv_aload_n hx hb d_Main_back_14 rfl (lv_at hl 0 rfl) ?_
    refine r_get (v := .ref (ad 20)) K hw i_Main sh_Main rfl 10 (by decide) w_608 rfl rfl rfl d_Main_back_15 ?_
    refine r_get (v := .int (s0.1 20 3)) K hw i_Image sh_Image rfl 3 (by decide) w_124 rfl rfl rfl d_Main_back_18 ?_
    refine r_putI K hw i_Main t_Main t_Main_ok n_Main sh_Main rfl 1 (by decide) w_599 rfl rfl rfl rfl rfl d_Main_back_21 (fun s_2 f_s_2 H locs hw => ?_)
    replace hF := ltN hF f_s_2
    refine lv_aload_n hx hb d_Main_back_24 rfl (lv_at hl 0 rfl) ?_
    refine lv_aload_n hx hb d_Main_back_25 rfl (lv_at hl 0 rfl) ?_
    refine r_get (v := .ref (ad 20)) K hw i_Main sh_Main rfl 10 (by decide) w_608 rfl rfl rfl d_Main_back_26 ?_
    refine r_get (v := .int (s_2.1 20 4)) K hw i_Image sh_Image rfl 4 (by decide) w_125 rfl rfl rfl d_Main_back_29 ?_
    refine r_putI K hw i_Main t_Main t_Main_ok n_Main sh_Main rfl 4 (by decide) w_602 rfl rfl rfl rfl rfl d_Main_back_32 (fun s_3 f_s_3 H locs hw => ?_)
    replace hF := ltN hF f_s_3
    refine lv_iconst (v := 0) hx hb d_Main_back_35 (by decide) ?_
    refine lv_istore_n (lv' := [(1, .int (0 : Int32)), (0, .ref (ad 0))]) hx hb d_Main_back_36 rfl hl (by decide) rfl (fun ls hl => ?_)
    exact q_Main_back_37 K FU _ _ _ _ _  hw (lv_sub hl [1, 0] rfl) hF
  · replace hF := ifN hF c_1
    refine lv_bipush (v := -3) hx hb d_Main_back_10 (by decide) ?_
    obtain ⟨hF, hG⟩ := sE2 hF
    subst hF
    subst hG
    exact r_iret K hw d_Main_back_12
end S_Main_back
abbrev F_Main_back := F_Main_back_0
theorem c_Main_back {l : Launch} {D : va_G} {cA : Nat → ClassId} {ad : Nat → Nat} {s0 τ : St} {r : Int32}   (hF : F_Main_back s0 = (some (r, τ))) : MI l D cA ad shC y_Main_back (wT y_Main_back b_Main_back 2 (some .int)) rm_Main_back [.ref (ad 0)] s0 r τ := fun sz => m_start (Qc := fun A => QcI D cA ad shC A r τ) (by decide +kernel) w_942 (Nat.le_of_ble_eq_true rfl) (fun p e s m below meth c ls K hl hw => q_Main_back_0 K _ _ _ _   hw hl hF)

/-! Main.sheet(III)I -/
abbrev b_Main_sheet : ByteArray := prog_1_method_30_code
def y_Main_sheet : MethodName := ⟨R_Main, "sheet", "(III)I"⟩
theorem a_Main_sheet : y_Main_sheet.cls = R_Main ∧ y_Main_sheet.cls ≠ "java/lang/invoke/MethodHandle" ∧ y_Main_sheet.cls ≠ "java/lang/invoke/VarHandle" ∧ (parseMethodDescriptor y_Main_sheet.desc).map (fun d => d.parameters.length) = some 3 := by decide +kernel
abbrev rm_Main_sheet : Room := { frames := 2, cells := 0, slots := 0, locals := 45 }
theorem w_946 : Cond.code y_Main_sheet b_Main_sheet 4 (some .int) ∈ TB := tb_in 946 (by decide +kernel) (by decide +kernel)
theorem d_Main_sheet_0 : decode b_Main_sheet 0 = .ok (.iload_n 1, 1) := by decide +kernel
theorem d_Main_sheet_1 : decode b_Main_sheet 1 = .ok (.invokestatic 255, 3) := by decide +kernel
theorem d_Main_sheet_4 : decode b_Main_sheet 4 = .ok (.ifCond .eq 12, 3) := by decide +kernel
theorem d_Main_sheet_7 : decode b_Main_sheet 7 = .ok (.iload_n 2, 1) := by decide +kernel
theorem d_Main_sheet_8 : decode b_Main_sheet 8 = .ok (.iconst (-1), 1) := by decide +kernel
theorem d_Main_sheet_9 : decode b_Main_sheet 9 = .ok (.iconst 2, 1) := by decide +kernel
theorem d_Main_sheet_10 : decode b_Main_sheet 10 = .ok (.invokestatic 108, 3) := by decide +kernel
theorem d_Main_sheet_13 : decode b_Main_sheet 13 = .ok (.ifCond .ne 6, 3) := by decide +kernel
theorem d_Main_sheet_16 : decode b_Main_sheet 16 = .ok (.bipush (-2), 2) := by decide +kernel
theorem d_Main_sheet_18 : decode b_Main_sheet 18 = .ok (.ireturn, 1) := by decide +kernel
theorem d_Main_sheet_19 : decode b_Main_sheet 19 = .ok (.iload_n 2, 1) := by decide +kernel
theorem d_Main_sheet_20 : decode b_Main_sheet 20 = .ok (.iconst (-1), 1) := by decide +kernel
theorem d_Main_sheet_21 : decode b_Main_sheet 21 = .ok (.if_icmp .ne 16, 3) := by decide +kernel
theorem d_Main_sheet_24 : decode b_Main_sheet 24 = .ok (.aload_n 0, 1) := by decide +kernel
theorem d_Main_sheet_25 : decode b_Main_sheet 25 = .ok (.getfield 30, 3) := by decide +kernel
theorem d_Main_sheet_28 : decode b_Main_sheet 28 = .ok (.iload_n 1, 1) := by decide +kernel
theorem d_Main_sheet_29 : decode b_Main_sheet 29 = .ok (.aaload, 1) := by decide +kernel
theorem d_Main_sheet_30 : decode b_Main_sheet 30 = .ok (.iconst (-1), 1) := by decide +kernel
theorem d_Main_sheet_31 : decode b_Main_sheet 31 = .ok (.iconst 0, 1) := by decide +kernel
theorem d_Main_sheet_32 : decode b_Main_sheet 32 = .ok (.invokevirtual 258, 3) := by decide +kernel
theorem d_Main_sheet_35 : decode b_Main_sheet 35 = .ok (.iconst 1, 1) := by decide +kernel
theorem d_Main_sheet_36 : decode b_Main_sheet 36 = .ok (.ireturn, 1) := by decide +kernel
theorem d_Main_sheet_37 : decode b_Main_sheet 37 = .ok (.iload_n 3, 1) := by decide +kernel
theorem d_Main_sheet_38 : decode b_Main_sheet 38 = .ok (.bipush 40, 2) := by decide +kernel
theorem d_Main_sheet_40 : decode b_Main_sheet 40 = .ok (.if_icmp .le 6, 3) := by decide +kernel
theorem d_Main_sheet_43 : decode b_Main_sheet 43 = .ok (.bipush (-2), 2) := by decide +kernel
theorem d_Main_sheet_45 : decode b_Main_sheet 45 = .ok (.ireturn, 1) := by decide +kernel
theorem d_Main_sheet_46 : decode b_Main_sheet 46 = .ok (.iload_n 3, 1) := by decide +kernel
theorem d_Main_sheet_47 : decode b_Main_sheet 47 = .ok (.ifCond .ge 6, 3) := by decide +kernel
theorem d_Main_sheet_50 : decode b_Main_sheet 50 = .ok (.bipush (-14), 2) := by decide +kernel
theorem d_Main_sheet_52 : decode b_Main_sheet 52 = .ok (.ireturn, 1) := by decide +kernel
theorem d_Main_sheet_53 : decode b_Main_sheet 53 = .ok (.aload_n 0, 1) := by decide +kernel
theorem d_Main_sheet_54 : decode b_Main_sheet 54 = .ok (.getfield 30, 3) := by decide +kernel
theorem d_Main_sheet_57 : decode b_Main_sheet 57 = .ok (.iload_n 1, 1) := by decide +kernel
theorem d_Main_sheet_58 : decode b_Main_sheet 58 = .ok (.aaload, 1) := by decide +kernel
theorem d_Main_sheet_59 : decode b_Main_sheet 59 = .ok (.iload_n 2, 1) := by decide +kernel
theorem d_Main_sheet_60 : decode b_Main_sheet 60 = .ok (.iload_n 3, 1) := by decide +kernel
theorem d_Main_sheet_61 : decode b_Main_sheet 61 = .ok (.invokevirtual 258, 3) := by decide +kernel
theorem d_Main_sheet_64 : decode b_Main_sheet 64 = .ok (.iconst 1, 1) := by decide +kernel
theorem d_Main_sheet_65 : decode b_Main_sheet 65 = .ok (.ireturn, 1) := by decide +kernel
section S_Main_sheet
variable {p : Program} {l : Launch} {e : Env} {s : State} {m : MethodId} {args : Array Value} {below : List Frame} {meth : Method} {c : Code} {D : va_G} {cA : Nat → ClassId} {ad : Nat → Nat} {A : Nat → Prop} {r : Int32} {τ : St}
def F_Main_sheet_0 (s0 : St) (v1 : Int32) (v2 : Int32) (v3 : Int32) : Option (Int32 × St) := (ob1 (F_Main_isSheet v1) (fun r_1 => (if r_1 = 0 then (some ((-2 : Int32), s0)) else (if ¬ (F_Main_isWithin v2 (-1 : Int32) (2 : Int32)) = 0 then (if ¬ v2 = (-1 : Int32) then (if v3 ≤ (40 : Int32) then (if 0 ≤ v3 then (if inB v1 4 = true then (ob1 (F_Sheet_become s0 (42 + v1.toNatClampNeg) v2 v3) (fun s_8 => (some ((1 : Int32), s_8)))) else none) else (some ((-14 : Int32), s0))) else (some ((-2 : Int32), s0))) else (if inB v1 4 = true then (ob1 (F_Sheet_become s0 (42 + v1.toNatClampNeg) (-1 : Int32) (0 : Int32)) (fun s_10 => (some ((1 : Int32), s_10)))) else none)) else (some ((-2 : Int32), s0))))))
set_option maxHeartbeats 4000000 in
set_option maxRecDepth 100000 in
theorem q_Main_sheet_0 (K : Fx p s m args meth c b_Main_sheet 4 R_Main (some .int))  : ∀ (H : Heap) (locs : List Loc) (ls : Array Slot) (s0 : St) (v1 : Int32) (v2 : Int32) (v3 : Int32), Wh D cA ad shC A s s0 H locs → lv_has ls 4 [(0, .ref (ad 0)), (1, .int v1), (2, .int v2), (3, .int v3)] → F_Main_sheet_0 s0 v1 v2 v3 = (some (r, τ)) → W p l e rm_Main_sheet s m args below meth c H locs 0 0 (MQ below (QcI D cA ad shC A r τ) args s 0 0 A) (F0 m 0 ls []) := by
  have hx := K.1.1; have hb := K.1.2.1
  intro H locs ls s0 v1 v2 v3 hw hl hF
  unfold F_Main_sheet_0 at hF
  refine lv_iload_n hx hb d_Main_sheet_0 rfl (lv_at hl 1 rfl) ?_
  obtain ⟨r_1, h_r_1, hF⟩ := ob1E hF
  refine r_callSI (As := [.int v1]) (rest := []) K hw hl.1 (c_Main_isSheet (l := l) (D := D) (cA := cA) (ad := ad) (s0 := s0)  h_r_1) (tb_gS w_874 w_875 w_63 w_876) a_Main_isSheet ⟨rfl, rfl, Nat.le_of_ble_eq_true rfl, Nat.le_of_ble_eq_true rfl⟩ rfl rfl (Nat.le_of_ble_eq_true rfl) d_Main_sheet_1 (fun H locs hw => ?_)
  refine lv_if_eq (tgt := 16) hx hb d_Main_sheet_4 (by decide) (fun c_2 => ?_) (fun c_2 => ?_)
  · replace hF := ifT hF c_2
    refine lv_bipush (v := -2) hx hb d_Main_sheet_16 (by decide) ?_
    obtain ⟨hF, hG⟩ := sE2 hF
    subst hF
    subst hG
    exact r_iret K hw d_Main_sheet_18
  · replace hF := ifF hF c_2
    refine lv_iload_n hx hb d_Main_sheet_7 rfl (lv_at hl 2 rfl) ?_
    refine lv_iconst (v := -1) hx hb d_Main_sheet_8 (by decide) ?_
    refine lv_iconst (v := 2) hx hb d_Main_sheet_9 (by decide) ?_
    refine r_callSI (As := [.int v2, .int (-1 : Int32), .int (2 : Int32)]) (rest := []) K hw hl.1 (c_Main_isWithin (l := l) (D := D) (cA := cA) (ad := ad) (s0 := s0)  rfl) (tb_gS w_640 w_347 w_63 w_348) a_Main_isWithin ⟨rfl, rfl, Nat.le_of_ble_eq_true rfl, Nat.le_of_ble_eq_true rfl⟩ rfl rfl (Nat.le_of_ble_eq_true rfl) d_Main_sheet_10 (fun H locs hw => ?_)
    refine lv_if_ne (tgt := 19) hx hb d_Main_sheet_13 (by decide) (fun c_3 => ?_) (fun c_3 => ?_)
    · replace hF := ifT hF c_3
      refine lv_iload_n hx hb d_Main_sheet_19 rfl (lv_at hl 2 rfl) ?_
      refine lv_iconst (v := -1) hx hb d_Main_sheet_20 (by decide) ?_
      refine lv_icmp_ne (tgt := 37) hx hb d_Main_sheet_21 (by decide) (fun c_4 => ?_) (fun c_4 => ?_)
      · replace hF := ifT hF c_4
        refine lv_iload_n hx hb d_Main_sheet_37 rfl (lv_at hl 3 rfl) ?_
        refine lv_bipush (v := 40) hx hb d_Main_sheet_38 (by decide) ?_
        refine lv_icmp_le (tgt := 46) hx hb d_Main_sheet_40 (by decide) (fun c_5 => ?_) (fun c_5 => ?_)
        · replace hF := ifT hF c_5
          refine lv_iload_n hx hb d_Main_sheet_46 rfl (lv_at hl 3 rfl) ?_
          refine lv_if_ge (tgt := 53) hx hb d_Main_sheet_47 (by decide) (fun c_6 => ?_) (fun c_6 => ?_)
          · replace hF := ifT hF c_6
            refine lv_aload_n hx hb d_Main_sheet_53 rfl (lv_at hl 0 rfl) ?_
            refine r_get (v := .ref (ad 3)) K hw i_Main sh_Main rfl 9 (by decide) w_607 rfl rfl rfl d_Main_sheet_54 ?_
            refine lv_iload_n hx hb d_Main_sheet_57 rfl (lv_at hl 1 rfl) ?_
            obtain ⟨g_7, hF⟩ := ifG hF
            refine r_aald (k := v1.toNatClampNeg) K hw (show shC[3]? = some (.inr (.inr (3, 42, 4))) from rfl) (rfl : (TYS cA)[3]? = some (cA 3, _)) rfl (inB_vp g_7) d_Main_sheet_58 ?_
            refine lv_iload_n hx hb d_Main_sheet_59 rfl (lv_at hl 2 rfl) ?_
            refine lv_iload_n hx hb d_Main_sheet_60 rfl (lv_at hl 3 rfl) ?_
            obtain ⟨s_8, h_s_8, hF⟩ := ob1E hF
            refine r_callVV (As := [.int v2, .int v3]) (rest := []) K hw hl.1 (c_Sheet_become (l := l) (D := D) (cA := cA) (ad := ad) (s0 := s0) (P_Sheet_of g_7) h_s_8) (sh_Sheet (P_Sheet_of g_7)) rfl (tb_gV w_906 w_907 w_908 w_67 w_909) a_Sheet_become ⟨rfl, rfl, Nat.le_of_ble_eq_true rfl, Nat.le_of_ble_eq_true rfl⟩ rfl rfl (Nat.le_of_ble_eq_true rfl) d_Main_sheet_61 (fun H locs hw => ?_)
            refine lv_iconst (v := 1) hx hb d_Main_sheet_64 (by decide) ?_
            obtain ⟨hF, hG⟩ := sE2 hF
            subst hF
            subst hG
            exact r_iret K hw d_Main_sheet_65
          · replace hF := ifF hF c_6
            refine lv_bipush (v := -14) hx hb d_Main_sheet_50 (by decide) ?_
            obtain ⟨hF, hG⟩ := sE2 hF
            subst hF
            subst hG
            exact r_iret K hw d_Main_sheet_52
        · replace hF := ifF hF c_5
          refine lv_bipush (v := -2) hx hb d_Main_sheet_43 (by decide) ?_
          obtain ⟨hF, hG⟩ := sE2 hF
          subst hF
          subst hG
          exact r_iret K hw d_Main_sheet_45
      · replace hF := ifN hF c_4
        refine lv_aload_n hx hb d_Main_sheet_24 rfl (lv_at hl 0 rfl) ?_
        refine r_get (v := .ref (ad 3)) K hw i_Main sh_Main rfl 9 (by decide) w_607 rfl rfl rfl d_Main_sheet_25 ?_
        refine lv_iload_n hx hb d_Main_sheet_28 rfl (lv_at hl 1 rfl) ?_
        obtain ⟨g_9, hF⟩ := ifG hF
        refine r_aald (k := v1.toNatClampNeg) K hw (show shC[3]? = some (.inr (.inr (3, 42, 4))) from rfl) (rfl : (TYS cA)[3]? = some (cA 3, _)) rfl (inB_vp g_9) d_Main_sheet_29 ?_
        refine lv_iconst (v := -1) hx hb d_Main_sheet_30 (by decide) ?_
        refine lv_iconst (v := 0) hx hb d_Main_sheet_31 (by decide) ?_
        obtain ⟨s_10, h_s_10, hF⟩ := ob1E hF
        refine r_callVV (As := [.int (-1 : Int32), .int (0 : Int32)]) (rest := []) K hw hl.1 (c_Sheet_become (l := l) (D := D) (cA := cA) (ad := ad) (s0 := s0) (P_Sheet_of g_9) h_s_10) (sh_Sheet (P_Sheet_of g_9)) rfl (tb_gV w_906 w_907 w_908 w_67 w_909) a_Sheet_become ⟨rfl, rfl, Nat.le_of_ble_eq_true rfl, Nat.le_of_ble_eq_true rfl⟩ rfl rfl (Nat.le_of_ble_eq_true rfl) d_Main_sheet_32 (fun H locs hw => ?_)
        refine lv_iconst (v := 1) hx hb d_Main_sheet_35 (by decide) ?_
        obtain ⟨hF, hG⟩ := sE2 hF
        subst hF
        subst hG
        exact r_iret K hw d_Main_sheet_36
    · replace hF := ifN hF c_3
      refine lv_bipush (v := -2) hx hb d_Main_sheet_16 (by decide) ?_
      obtain ⟨hF, hG⟩ := sE2 hF
      subst hF
      subst hG
      exact r_iret K hw d_Main_sheet_18
end S_Main_sheet
abbrev F_Main_sheet := F_Main_sheet_0
theorem c_Main_sheet {l : Launch} {D : va_G} {cA : Nat → ClassId} {ad : Nat → Nat} {s0 τ : St} {r : Int32} {v1 : Int32} {v2 : Int32} {v3 : Int32}  (hF : F_Main_sheet s0 v1 v2 v3 = (some (r, τ))) : MI l D cA ad shC y_Main_sheet (wT y_Main_sheet b_Main_sheet 4 (some .int)) rm_Main_sheet [.ref (ad 0), .int v1, .int v2, .int v3] s0 r τ := fun sz => m_start (Qc := fun A => QcI D cA ad shC A r τ) (by decide +kernel) w_946 (Nat.le_of_ble_eq_true rfl) (fun p e s m below meth c ls K hl hw => q_Main_sheet_0 K _ _ _ _ _ _ _  hw hl hF)

/-! Main.cell(III)I -/
abbrev b_Main_cell : ByteArray := prog_1_method_31_code
def y_Main_cell : MethodName := ⟨R_Main, "cell", "(III)I"⟩
theorem a_Main_cell : y_Main_cell.cls = R_Main ∧ y_Main_cell.cls ≠ "java/lang/invoke/MethodHandle" ∧ y_Main_cell.cls ≠ "java/lang/invoke/VarHandle" ∧ (parseMethodDescriptor y_Main_cell.desc).map (fun d => d.parameters.length) = some 3 := by decide +kernel
abbrev rm_Main_cell : Room := { frames := 3, cells := 0, slots := 0, locals := 65 }
theorem w_951 : Cond.methodLink R_Main 284 y_Sheet_hasPlace ∈ TB := tb_in 951 (by decide +kernel) (by decide +kernel)
theorem w_950 : Cond.code y_Main_cell b_Main_cell 4 (some .int) ∈ TB := tb_in 950 (by decide +kernel) (by decide +kernel)
theorem d_Main_cell_0 : decode b_Main_cell 0 = .ok (.iload_n 1, 1) := by decide +kernel
theorem d_Main_cell_1 : decode b_Main_cell 1 = .ok (.invokestatic 255, 3) := by decide +kernel
theorem d_Main_cell_4 : decode b_Main_cell 4 = .ok (.ifCond .ne 6, 3) := by decide +kernel
theorem d_Main_cell_7 : decode b_Main_cell 7 = .ok (.bipush (-2), 2) := by decide +kernel
theorem d_Main_cell_9 : decode b_Main_cell 9 = .ok (.ireturn, 1) := by decide +kernel
theorem d_Main_cell_10 : decode b_Main_cell 10 = .ok (.aload_n 0, 1) := by decide +kernel
theorem d_Main_cell_11 : decode b_Main_cell 11 = .ok (.getfield 30, 3) := by decide +kernel
theorem d_Main_cell_14 : decode b_Main_cell 14 = .ok (.iload_n 1, 1) := by decide +kernel
theorem d_Main_cell_15 : decode b_Main_cell 15 = .ok (.aaload, 1) := by decide +kernel
theorem d_Main_cell_16 : decode b_Main_cell 16 = .ok (.getfield 281, 3) := by decide +kernel
theorem d_Main_cell_19 : decode b_Main_cell 19 = .ok (.iconst (-1), 1) := by decide +kernel
theorem d_Main_cell_20 : decode b_Main_cell 20 = .ok (.if_icmp .ne 6, 3) := by decide +kernel
theorem d_Main_cell_23 : decode b_Main_cell 23 = .ok (.bipush (-11), 2) := by decide +kernel
theorem d_Main_cell_25 : decode b_Main_cell 25 = .ok (.ireturn, 1) := by decide +kernel
theorem d_Main_cell_26 : decode b_Main_cell 26 = .ok (.aload_n 0, 1) := by decide +kernel
theorem d_Main_cell_27 : decode b_Main_cell 27 = .ok (.getfield 30, 3) := by decide +kernel
theorem d_Main_cell_30 : decode b_Main_cell 30 = .ok (.iload_n 1, 1) := by decide +kernel
theorem d_Main_cell_31 : decode b_Main_cell 31 = .ok (.aaload, 1) := by decide +kernel
theorem d_Main_cell_32 : decode b_Main_cell 32 = .ok (.iload_n 2, 1) := by decide +kernel
theorem d_Main_cell_33 : decode b_Main_cell 33 = .ok (.invokevirtual 284, 3) := by decide +kernel
theorem d_Main_cell_36 : decode b_Main_cell 36 = .ok (.ifCond .ne 6, 3) := by decide +kernel
theorem d_Main_cell_39 : decode b_Main_cell 39 = .ok (.bipush (-12), 2) := by decide +kernel
theorem d_Main_cell_41 : decode b_Main_cell 41 = .ok (.ireturn, 1) := by decide +kernel
theorem d_Main_cell_42 : decode b_Main_cell 42 = .ok (.aload_n 0, 1) := by decide +kernel
theorem d_Main_cell_43 : decode b_Main_cell 43 = .ok (.getfield 30, 3) := by decide +kernel
theorem d_Main_cell_46 : decode b_Main_cell 46 = .ok (.iload_n 1, 1) := by decide +kernel
theorem d_Main_cell_47 : decode b_Main_cell 47 = .ok (.aaload, 1) := by decide +kernel
theorem d_Main_cell_48 : decode b_Main_cell 48 = .ok (.iload_n 2, 1) := by decide +kernel
theorem d_Main_cell_49 : decode b_Main_cell 49 = .ok (.iload_n 3, 1) := by decide +kernel
theorem d_Main_cell_50 : decode b_Main_cell 50 = .ok (.invokevirtual 261, 3) := by decide +kernel
theorem d_Main_cell_53 : decode b_Main_cell 53 = .ok (.iconst 1, 1) := by decide +kernel
theorem d_Main_cell_54 : decode b_Main_cell 54 = .ok (.ireturn, 1) := by decide +kernel
section S_Main_cell
variable {p : Program} {l : Launch} {e : Env} {s : State} {m : MethodId} {args : Array Value} {below : List Frame} {meth : Method} {c : Code} {D : va_G} {cA : Nat → ClassId} {ad : Nat → Nat} {A : Nat → Prop} {r : Int32} {τ : St}
def F_Main_cell_0 (s0 : St) (v1 : Int32) (v2 : Int32) (v3 : Int32) : Option (Int32 × St) := (ob1 (F_Main_isSheet v1) (fun r_1 => (if ¬ r_1 = 0 then (if inB v1 4 = true then (if ¬ (s0.1 (42 + v1.toNatClampNeg) 1) = (-1 : Int32) then (if inB v1 4 = true then (ob1 (F_Sheet_hasPlace s0 (42 + v1.toNatClampNeg) v2) (fun r_6 => (if ¬ r_6 = 0 then (if inB v1 4 = true then (ob1 (F_Sheet_put s0 (42 + v1.toNatClampNeg) v2 v3) (fun s_9 => (some ((1 : Int32), s_9)))) else none) else (some ((-12 : Int32), s0))))) else none) else (some ((-11 : Int32), s0))) else none) else (some ((-2 : Int32), s0)))))
set_option maxHeartbeats 4000000 in
set_option maxRecDepth 100000 in
theorem q_Main_cell_0 (K : Fx p s m args meth c b_Main_cell 4 R_Main (some .int))  : ∀ (H : Heap) (locs : List Loc) (ls : Array Slot) (s0 : St) (v1 : Int32) (v2 : Int32) (v3 : Int32), Wh D cA ad shC A s s0 H locs → lv_has ls 4 [(0, .ref (ad 0)), (1, .int v1), (2, .int v2), (3, .int v3)] → F_Main_cell_0 s0 v1 v2 v3 = (some (r, τ)) → W p l e rm_Main_cell s m args below meth c H locs 0 0 (MQ below (QcI D cA ad shC A r τ) args s 0 0 A) (F0 m 0 ls []) := by
  have hx := K.1.1; have hb := K.1.2.1
  intro H locs ls s0 v1 v2 v3 hw hl hF
  unfold F_Main_cell_0 at hF
  refine lv_iload_n hx hb d_Main_cell_0 rfl (lv_at hl 1 rfl) ?_
  obtain ⟨r_1, h_r_1, hF⟩ := ob1E hF
  refine r_callSI (As := [.int v1]) (rest := []) K hw hl.1 (c_Main_isSheet (l := l) (D := D) (cA := cA) (ad := ad) (s0 := s0)  h_r_1) (tb_gS w_874 w_875 w_63 w_876) a_Main_isSheet ⟨rfl, rfl, Nat.le_of_ble_eq_true rfl, Nat.le_of_ble_eq_true rfl⟩ rfl rfl (Nat.le_of_ble_eq_true rfl) d_Main_cell_1 (fun H locs hw => ?_)
  refine lv_if_ne (tgt := 10) hx hb d_Main_cell_4 (by decide) (fun c_2 => ?_) (fun c_2 => ?_)
  · replace hF := ifT hF c_2
    refine lv_aload_n hx hb d_Main_cell_10 rfl (lv_at hl 0 rfl) ?_
    refine r_get (v := .ref (ad 3)) K hw i_Main sh_Main rfl 9 (by decide) w_607 rfl rfl rfl d_Main_cell_11 ?_
    refine lv_iload_n hx hb d_Main_cell_14 rfl (lv_at hl 1 rfl) ?_
    obtain ⟨g_3, hF⟩ := ifG hF
    refine r_aald (k := v1.toNatClampNeg) K hw (show shC[3]? = some (.inr (.inr (3, 42, 4))) from rfl) (rfl : (TYS cA)[3]? = some (cA 3, _)) rfl (inB_vp g_3) d_Main_cell_15 ?_
    refine r_get (v := .int (s0.1 (42 + v1.toNatClampNeg) 1)) K hw i_Sheet (sh_Sheet (P_Sheet_of g_3)) rfl 1 (by decide) w_192 rfl rfl rfl d_Main_cell_16 ?_
    refine lv_iconst (v := -1) hx hb d_Main_cell_19 (by decide) ?_
    refine lv_icmp_ne (tgt := 26) hx hb d_Main_cell_20 (by decide) (fun c_4 => ?_) (fun c_4 => ?_)
    · replace hF := ifT hF c_4
      refine lv_aload_n hx hb d_Main_cell_26 rfl (lv_at hl 0 rfl) ?_
      refine r_get (v := .ref (ad 3)) K hw i_Main sh_Main rfl 9 (by decide) w_607 rfl rfl rfl d_Main_cell_27 ?_
      refine lv_iload_n hx hb d_Main_cell_30 rfl (lv_at hl 1 rfl) ?_
      obtain ⟨g_5, hF⟩ := ifG hF
      refine r_aald (k := v1.toNatClampNeg) K hw (show shC[3]? = some (.inr (.inr (3, 42, 4))) from rfl) (rfl : (TYS cA)[3]? = some (cA 3, _)) rfl (inB_vp g_5) d_Main_cell_31 ?_
      refine lv_iload_n hx hb d_Main_cell_32 rfl (lv_at hl 2 rfl) ?_
      obtain ⟨r_6, h_r_6, hF⟩ := ob1E hF
      refine r_callVI (As := [.int v2]) (rest := []) K hw hl.1 (c_Sheet_hasPlace (l := l) (D := D) (cA := cA) (ad := ad) (s0 := s0) (P_Sheet_of g_5) h_r_6) (sh_Sheet (P_Sheet_of g_5)) rfl (tb_gV w_951 w_886 w_887 w_67 w_888) a_Sheet_hasPlace ⟨rfl, rfl, Nat.le_of_ble_eq_true rfl, Nat.le_of_ble_eq_true rfl⟩ rfl rfl (Nat.le_of_ble_eq_true rfl) d_Main_cell_33 (fun H locs hw => ?_)
      refine lv_if_ne (tgt := 42) hx hb d_Main_cell_36 (by decide) (fun c_7 => ?_) (fun c_7 => ?_)
      · replace hF := ifT hF c_7
        refine lv_aload_n hx hb d_Main_cell_42 rfl (lv_at hl 0 rfl) ?_
        refine r_get (v := .ref (ad 3)) K hw i_Main sh_Main rfl 9 (by decide) w_607 rfl rfl rfl d_Main_cell_43 ?_
        refine lv_iload_n hx hb d_Main_cell_46 rfl (lv_at hl 1 rfl) ?_
        obtain ⟨g_8, hF⟩ := ifG hF
        refine r_aald (k := v1.toNatClampNeg) K hw (show shC[3]? = some (.inr (.inr (3, 42, 4))) from rfl) (rfl : (TYS cA)[3]? = some (cA 3, _)) rfl (inB_vp g_8) d_Main_cell_47 ?_
        refine lv_iload_n hx hb d_Main_cell_48 rfl (lv_at hl 2 rfl) ?_
        refine lv_iload_n hx hb d_Main_cell_49 rfl (lv_at hl 3 rfl) ?_
        obtain ⟨s_9, h_s_9, hF⟩ := ob1E hF
        refine r_callVV (As := [.int v2, .int v3]) (rest := []) K hw hl.1 (c_Sheet_put (l := l) (D := D) (cA := cA) (ad := ad) (s0 := s0) (P_Sheet_of g_8) h_s_9) (sh_Sheet (P_Sheet_of g_8)) rfl (tb_gV w_911 w_912 w_913 w_67 w_914) a_Sheet_put ⟨rfl, rfl, Nat.le_of_ble_eq_true rfl, Nat.le_of_ble_eq_true rfl⟩ rfl rfl (Nat.le_of_ble_eq_true rfl) d_Main_cell_50 (fun H locs hw => ?_)
        refine lv_iconst (v := 1) hx hb d_Main_cell_53 (by decide) ?_
        obtain ⟨hF, hG⟩ := sE2 hF
        subst hF
        subst hG
        exact r_iret K hw d_Main_cell_54
      · replace hF := ifN hF c_7
        refine lv_bipush (v := -12) hx hb d_Main_cell_39 (by decide) ?_
        obtain ⟨hF, hG⟩ := sE2 hF
        subst hF
        subst hG
        exact r_iret K hw d_Main_cell_41
    · replace hF := ifN hF c_4
      refine lv_bipush (v := -11) hx hb d_Main_cell_23 (by decide) ?_
      obtain ⟨hF, hG⟩ := sE2 hF
      subst hF
      subst hG
      exact r_iret K hw d_Main_cell_25
  · replace hF := ifN hF c_2
    refine lv_bipush (v := -2) hx hb d_Main_cell_7 (by decide) ?_
    obtain ⟨hF, hG⟩ := sE2 hF
    subst hF
    subst hG
    exact r_iret K hw d_Main_cell_9
end S_Main_cell
abbrev F_Main_cell := F_Main_cell_0
theorem c_Main_cell {l : Launch} {D : va_G} {cA : Nat → ClassId} {ad : Nat → Nat} {s0 τ : St} {r : Int32} {v1 : Int32} {v2 : Int32} {v3 : Int32}  (hF : F_Main_cell s0 v1 v2 v3 = (some (r, τ))) : MI l D cA ad shC y_Main_cell (wT y_Main_cell b_Main_cell 4 (some .int)) rm_Main_cell [.ref (ad 0), .int v1, .int v2, .int v3] s0 r τ := fun sz => m_start (Qc := fun A => QcI D cA ad shC A r τ) (by decide +kernel) w_950 (Nat.le_of_ble_eq_true rfl) (fun p e s m below meth c ls K hl hw => q_Main_cell_0 K _ _ _ _ _ _ _  hw hl hF)

/-! Sheet.hasPlaces(II)Z -/
abbrev b_Sheet_hasPlaces : ByteArray := prog_7_method_4_code
def y_Sheet_hasPlaces : MethodName := ⟨R_Sheet, "hasPlaces", "(II)Z"⟩
theorem a_Sheet_hasPlaces : y_Sheet_hasPlaces.cls = R_Sheet ∧ y_Sheet_hasPlaces.cls ≠ "java/lang/invoke/MethodHandle" ∧ y_Sheet_hasPlaces.cls ≠ "java/lang/invoke/VarHandle" ∧ (parseMethodDescriptor y_Sheet_hasPlaces.desc).map (fun d => d.parameters.length) = some 2 := by decide +kernel
abbrev rm_Sheet_hasPlaces : Room := { frames := 1, cells := 0, slots := 0, locals := 22 }
theorem w_959 : Cond.code y_Sheet_hasPlaces b_Sheet_hasPlaces 3 (some .boolean) ∈ TB := tb_in 959 (by decide +kernel) (by decide +kernel)
theorem d_Sheet_hasPlaces_0 : decode b_Sheet_hasPlaces 0 = .ok (.iload_n 1, 1) := by decide +kernel
theorem d_Sheet_hasPlaces_1 : decode b_Sheet_hasPlaces 1 = .ok (.ifCond .lt 29, 3) := by decide +kernel
theorem d_Sheet_hasPlaces_4 : decode b_Sheet_hasPlaces 4 = .ok (.iload_n 2, 1) := by decide +kernel
theorem d_Sheet_hasPlaces_5 : decode b_Sheet_hasPlaces 5 = .ok (.iconst 0, 1) := by decide +kernel
theorem d_Sheet_hasPlaces_6 : decode b_Sheet_hasPlaces 6 = .ok (.aload_n 0, 1) := by decide +kernel
theorem d_Sheet_hasPlaces_7 : decode b_Sheet_hasPlaces 7 = .ok (.getfield 23, 3) := by decide +kernel
theorem d_Sheet_hasPlaces_10 : decode b_Sheet_hasPlaces 10 = .ok (.invokestatic 26, 3) := by decide +kernel
theorem d_Sheet_hasPlaces_13 : decode b_Sheet_hasPlaces 13 = .ok (.ifCond .eq 17, 3) := by decide +kernel
theorem d_Sheet_hasPlaces_16 : decode b_Sheet_hasPlaces 16 = .ok (.iload_n 1, 1) := by decide +kernel
theorem d_Sheet_hasPlaces_17 : decode b_Sheet_hasPlaces 17 = .ok (.aload_n 0, 1) := by decide +kernel
theorem d_Sheet_hasPlaces_18 : decode b_Sheet_hasPlaces 18 = .ok (.getfield 23, 3) := by decide +kernel
theorem d_Sheet_hasPlaces_21 : decode b_Sheet_hasPlaces 21 = .ok (.iload_n 2, 1) := by decide +kernel
theorem d_Sheet_hasPlaces_22 : decode b_Sheet_hasPlaces 22 = .ok (.isub, 1) := by decide +kernel
theorem d_Sheet_hasPlaces_23 : decode b_Sheet_hasPlaces 23 = .ok (.if_icmp .gt 7, 3) := by decide +kernel
theorem d_Sheet_hasPlaces_26 : decode b_Sheet_hasPlaces 26 = .ok (.iconst 1, 1) := by decide +kernel
theorem d_Sheet_hasPlaces_27 : decode b_Sheet_hasPlaces 27 = .ok (.goto 4, 3) := by decide +kernel
theorem d_Sheet_hasPlaces_30 : decode b_Sheet_hasPlaces 30 = .ok (.iconst 0, 1) := by decide +kernel
theorem d_Sheet_hasPlaces_31 : decode b_Sheet_hasPlaces 31 = .ok (.ireturn, 1) := by decide +kernel
section S_Sheet_hasPlaces
variable {p : Program} {l : Launch} {e : Env} {s : State} {m : MethodId} {args : Array Value} {below : List Frame} {meth : Method} {c : Code} {D : va_G} {cA : Nat → ClassId} {ad : Nat → Nat} {A : Nat → Prop} {r : Int32} {τ : St}
def F_Sheet_hasPlaces_0 (s0 : St) (v0 : Nat) (v1 : Int32) (v2 : Int32) : Int32 := (if v1 < 0 then (0 : Int32) else (if (F_Main_isWithin v2 (0 : Int32) (s0.1 v0 2)) = 0 then (0 : Int32) else (if ((s0.1 v0 2) - v2) < v1 then (0 : Int32) else (1 : Int32))))
set_option maxHeartbeats 4000000 in
set_option maxRecDepth 100000 in
theorem q_Sheet_hasPlaces_0 (s0 : St) (K : Fx p s m args meth c b_Sheet_hasPlaces 3 R_Sheet (some .boolean))  : ∀ (H : Heap) (locs : List Loc) (ls : Array Slot) (v0 : Nat) (v1 : Int32) (v2 : Int32) (g_v0 : P_Sheet v0), Wh D cA ad shC A s s0 H locs → lv_has ls 3 [(0, .ref (ad v0)), (1, .int v1), (2, .int v2)] → F_Sheet_hasPlaces_0 s0 v0 v1 v2 = r → W p l e rm_Sheet_hasPlaces s m args below meth c H locs 0 0 (MQ below (QcI D cA ad shC A r s0) args s 0 0 A) (F0 m 0 ls []) := by
  have hx := K.1.1; have hb := K.1.2.1
  intro H locs ls v0 v1 v2 g_v0 hw hl hF
  unfold F_Sheet_hasPlaces_0 at hF
  refine lv_iload_n hx hb d_Sheet_hasPlaces_0 rfl (lv_at hl 1 rfl) ?_
  refine lv_if_lt (tgt := 30) hx hb d_Sheet_hasPlaces_1 (by decide) (fun c_1 => ?_) (fun c_1 => ?_)
  · replace hF := ifT hF c_1
    refine lv_iconst (v := 0) hx hb d_Sheet_hasPlaces_30 (by decide) ?_
    subst hF
    exact r_zret K hw (by decide) d_Sheet_hasPlaces_31
  · replace hF := ifF hF c_1
    refine lv_iload_n hx hb d_Sheet_hasPlaces_4 rfl (lv_at hl 2 rfl) ?_
    refine lv_iconst (v := 0) hx hb d_Sheet_hasPlaces_5 (by decide) ?_
    refine lv_aload_n hx hb d_Sheet_hasPlaces_6 rfl (lv_at hl 0 rfl) ?_
    refine r_get (v := .int (s0.1 v0 2)) K hw i_Sheet (sh_Sheet g_v0) rfl 2 (by decide) w_193 rfl rfl rfl d_Sheet_hasPlaces_7 ?_
    refine r_callNI (As := [.int v2, .int (0 : Int32), .int (s0.1 v0 2)]) (rest := []) K hw hl.1 (c_Main_isWithin (l := l) (D := D) (cA := cA) (ad := ad) (s0 := s0)  rfl) (nw_889) w_347 w_63 w_348 a_Main_isWithin.2 ⟨rfl, rfl, Nat.le_of_ble_eq_true rfl, Nat.le_of_ble_eq_true rfl⟩ rfl rfl (Nat.le_of_ble_eq_true rfl) d_Sheet_hasPlaces_10 (fun H locs hw => ?_)
    refine lv_if_eq (tgt := 30) hx hb d_Sheet_hasPlaces_13 (by decide) (fun c_2 => ?_) (fun c_2 => ?_)
    · replace hF := ifT hF c_2
      refine lv_iconst (v := 0) hx hb d_Sheet_hasPlaces_30 (by decide) ?_
      subst hF
      exact r_zret K hw (by decide) d_Sheet_hasPlaces_31
    · replace hF := ifF hF c_2
      refine lv_iload_n hx hb d_Sheet_hasPlaces_16 rfl (lv_at hl 1 rfl) ?_
      refine lv_aload_n hx hb d_Sheet_hasPlaces_17 rfl (lv_at hl 0 rfl) ?_
      refine r_get (v := .int (s0.1 v0 2)) K hw i_Sheet (sh_Sheet g_v0) rfl 2 (by decide) w_193 rfl rfl rfl d_Sheet_hasPlaces_18 ?_
      refine lv_iload_n hx hb d_Sheet_hasPlaces_21 rfl (lv_at hl 2 rfl) ?_
      refine lv_isub hx hb d_Sheet_hasPlaces_22 ?_
      refine lv_icmp_gt (tgt := 30) hx hb d_Sheet_hasPlaces_23 (by decide) (fun c_3 => ?_) (fun c_3 => ?_)
      · replace hF := ifT hF c_3
        refine lv_iconst (v := 0) hx hb d_Sheet_hasPlaces_30 (by decide) ?_
        subst hF
        exact r_zret K hw (by decide) d_Sheet_hasPlaces_31
      · replace hF := ifF hF c_3
        refine lv_iconst (v := 1) hx hb d_Sheet_hasPlaces_26 (by decide) ?_
        refine lv_goto (tgt := 31) hx hb d_Sheet_hasPlaces_27 (by decide) ?_
        subst hF
        exact r_zret K hw (by decide) d_Sheet_hasPlaces_31
end S_Sheet_hasPlaces
abbrev F_Sheet_hasPlaces := F_Sheet_hasPlaces_0
theorem c_Sheet_hasPlaces {l : Launch} {D : va_G} {cA : Nat → ClassId} {ad : Nat → Nat} {s0 : St} {r : Int32} {v0 : Nat} {v1 : Int32} {v2 : Int32} (g_v0 : P_Sheet v0) (hF : F_Sheet_hasPlaces s0 v0 v1 v2 = r) : MI l D cA ad shC y_Sheet_hasPlaces (wT y_Sheet_hasPlaces b_Sheet_hasPlaces 3 (some .boolean)) rm_Sheet_hasPlaces [.ref (ad v0), .int v1, .int v2] s0 r s0 := fun sz => m_start (Qc := fun A => QcI D cA ad shC A r s0) (by decide +kernel) w_959 (Nat.le_of_ble_eq_true rfl) (fun p e s m below meth c ls K hl hw => q_Sheet_hasPlaces_0 s0 K _ _ _ _ _ _ g_v0 hw hl hF)

/-! Main.copy(IIIII)I -/
abbrev b_Main_copy : ByteArray := prog_1_method_32_code
def y_Main_copy : MethodName := ⟨R_Main, "copy", "(IIIII)I"⟩
theorem a_Main_copy : y_Main_copy.cls = R_Main ∧ y_Main_copy.cls ≠ "java/lang/invoke/MethodHandle" ∧ y_Main_copy.cls ≠ "java/lang/invoke/VarHandle" ∧ (parseMethodDescriptor y_Main_copy.desc).map (fun d => d.parameters.length) = some 5 := by decide +kernel
abbrev rm_Main_copy : Room := { frames := 2, cells := 0, slots := 0, locals := 60 }
theorem w_956 : Cond.methodLink R_Main 287 y_Sheet_hasPlaces ∈ TB := tb_in 956 (by decide +kernel) (by decide +kernel)
theorem w_957 : Cond.instanceMethod y_Sheet_hasPlaces ∈ TB := tb_in 957 (by decide +kernel) (by decide +kernel)
theorem w_958 : Cond.selects R_Sheet y_Sheet_hasPlaces y_Sheet_hasPlaces ∈ TB := tb_in 958 (by decide +kernel) (by decide +kernel)
theorem w_190 : Cond.fieldLink R_Main 290 R_Sheet "numbers" "[I" ∈ TB := tb_in 190 (by decide +kernel) (by decide +kernel)
theorem w_960 : Cond.methodLink R_Main 293 arraycopyName ∈ TB := tb_in 960 (by decide +kernel) (by decide +kernel)
theorem w_962 : Cond.native arraycopyName ∈ TB := tb_in 962 (by decide +kernel) (by decide +kernel)
theorem w_961 : Cond.static arraycopyName ∈ TB := tb_in 961 (by decide +kernel) (by decide +kernel)
theorem w_82 : Cond.initialized "java/lang/System" ∈ TB := tb_in 82 (by decide +kernel) (by decide +kernel)
theorem w_955 : Cond.code y_Main_copy b_Main_copy 8 (some .int) ∈ TB := tb_in 955 (by decide +kernel) (by decide +kernel)
theorem d_Main_copy_0 : decode b_Main_copy 0 = .ok (.iload_n 1, 1) := by decide +kernel
theorem d_Main_copy_1 : decode b_Main_copy 1 = .ok (.invokestatic 255, 3) := by decide +kernel
theorem d_Main_copy_4 : decode b_Main_copy 4 = .ok (.ifCond .eq 10, 3) := by decide +kernel
theorem d_Main_copy_7 : decode b_Main_copy 7 = .ok (.iload_n 3, 1) := by decide +kernel
theorem d_Main_copy_8 : decode b_Main_copy 8 = .ok (.invokestatic 255, 3) := by decide +kernel
theorem d_Main_copy_11 : decode b_Main_copy 11 = .ok (.ifCond .ne 6, 3) := by decide +kernel
theorem d_Main_copy_14 : decode b_Main_copy 14 = .ok (.bipush (-2), 2) := by decide +kernel
theorem d_Main_copy_16 : decode b_Main_copy 16 = .ok (.ireturn, 1) := by decide +kernel
theorem d_Main_copy_17 : decode b_Main_copy 17 = .ok (.aload_n 0, 1) := by decide +kernel
theorem d_Main_copy_18 : decode b_Main_copy 18 = .ok (.getfield 30, 3) := by decide +kernel
theorem d_Main_copy_21 : decode b_Main_copy 21 = .ok (.iload_n 1, 1) := by decide +kernel
theorem d_Main_copy_22 : decode b_Main_copy 22 = .ok (.aaload, 1) := by decide +kernel
theorem d_Main_copy_23 : decode b_Main_copy 23 = .ok (.astore 6, 2) := by decide +kernel
theorem d_Main_copy_25 : decode b_Main_copy 25 = .ok (.aload_n 0, 1) := by decide +kernel
theorem d_Main_copy_26 : decode b_Main_copy 26 = .ok (.getfield 30, 3) := by decide +kernel
theorem d_Main_copy_29 : decode b_Main_copy 29 = .ok (.iload_n 3, 1) := by decide +kernel
theorem d_Main_copy_30 : decode b_Main_copy 30 = .ok (.aaload, 1) := by decide +kernel
theorem d_Main_copy_31 : decode b_Main_copy 31 = .ok (.astore 7, 2) := by decide +kernel
theorem d_Main_copy_33 : decode b_Main_copy 33 = .ok (.aload 6, 2) := by decide +kernel
theorem d_Main_copy_35 : decode b_Main_copy 35 = .ok (.getfield 281, 3) := by decide +kernel
theorem d_Main_copy_38 : decode b_Main_copy 38 = .ok (.iconst (-1), 1) := by decide +kernel
theorem d_Main_copy_39 : decode b_Main_copy 39 = .ok (.if_icmp .eq 12, 3) := by decide +kernel
theorem d_Main_copy_42 : decode b_Main_copy 42 = .ok (.aload 7, 2) := by decide +kernel
theorem d_Main_copy_44 : decode b_Main_copy 44 = .ok (.getfield 281, 3) := by decide +kernel
theorem d_Main_copy_47 : decode b_Main_copy 47 = .ok (.iconst (-1), 1) := by decide +kernel
theorem d_Main_copy_48 : decode b_Main_copy 48 = .ok (.if_icmp .ne 6, 3) := by decide +kernel
theorem d_Main_copy_51 : decode b_Main_copy 51 = .ok (.bipush (-11), 2) := by decide +kernel
theorem d_Main_copy_53 : decode b_Main_copy 53 = .ok (.ireturn, 1) := by decide +kernel
theorem d_Main_copy_54 : decode b_Main_copy 54 = .ok (.aload 6, 2) := by decide +kernel
theorem d_Main_copy_56 : decode b_Main_copy 56 = .ok (.getfield 281, 3) := by decide +kernel
theorem d_Main_copy_59 : decode b_Main_copy 59 = .ok (.aload 7, 2) := by decide +kernel
theorem d_Main_copy_61 : decode b_Main_copy 61 = .ok (.getfield 281, 3) := by decide +kernel
theorem d_Main_copy_64 : decode b_Main_copy 64 = .ok (.if_icmp .eq 6, 3) := by decide +kernel
theorem d_Main_copy_67 : decode b_Main_copy 67 = .ok (.bipush (-13), 2) := by decide +kernel
theorem d_Main_copy_69 : decode b_Main_copy 69 = .ok (.ireturn, 1) := by decide +kernel
theorem d_Main_copy_70 : decode b_Main_copy 70 = .ok (.aload 6, 2) := by decide +kernel
theorem d_Main_copy_72 : decode b_Main_copy 72 = .ok (.iload_n 2, 1) := by decide +kernel
theorem d_Main_copy_73 : decode b_Main_copy 73 = .ok (.iload 5, 2) := by decide +kernel
theorem d_Main_copy_75 : decode b_Main_copy 75 = .ok (.invokevirtual 287, 3) := by decide +kernel
theorem d_Main_copy_78 : decode b_Main_copy 78 = .ok (.ifCond .eq 15, 3) := by decide +kernel
theorem d_Main_copy_81 : decode b_Main_copy 81 = .ok (.aload 7, 2) := by decide +kernel
theorem d_Main_copy_83 : decode b_Main_copy 83 = .ok (.iload 4, 2) := by decide +kernel
theorem d_Main_copy_85 : decode b_Main_copy 85 = .ok (.iload 5, 2) := by decide +kernel
theorem d_Main_copy_87 : decode b_Main_copy 87 = .ok (.invokevirtual 287, 3) := by decide +kernel
theorem d_Main_copy_90 : decode b_Main_copy 90 = .ok (.ifCond .ne 6, 3) := by decide +kernel
theorem d_Main_copy_93 : decode b_Main_copy 93 = .ok (.bipush (-12), 2) := by decide +kernel
theorem d_Main_copy_95 : decode b_Main_copy 95 = .ok (.ireturn, 1) := by decide +kernel
theorem d_Main_copy_96 : decode b_Main_copy 96 = .ok (.aload 6, 2) := by decide +kernel
theorem d_Main_copy_98 : decode b_Main_copy 98 = .ok (.getfield 290, 3) := by decide +kernel
theorem d_Main_copy_101 : decode b_Main_copy 101 = .ok (.iload_n 2, 1) := by decide +kernel
theorem d_Main_copy_102 : decode b_Main_copy 102 = .ok (.aload 7, 2) := by decide +kernel
theorem d_Main_copy_104 : decode b_Main_copy 104 = .ok (.getfield 290, 3) := by decide +kernel
theorem d_Main_copy_107 : decode b_Main_copy 107 = .ok (.iload 4, 2) := by decide +kernel
theorem d_Main_copy_109 : decode b_Main_copy 109 = .ok (.iload 5, 2) := by decide +kernel
theorem d_Main_copy_111 : decode b_Main_copy 111 = .ok (.invokestatic 293, 3) := by decide +kernel
theorem d_Main_copy_114 : decode b_Main_copy 114 = .ok (.iload 5, 2) := by decide +kernel
theorem d_Main_copy_116 : decode b_Main_copy 116 = .ok (.ireturn, 1) := by decide +kernel
section S_Main_copy
variable {p : Program} {l : Launch} {e : Env} {s : State} {m : MethodId} {args : Array Value} {below : List Frame} {meth : Method} {c : Code} {D : va_G} {cA : Nat → ClassId} {ad : Nat → Nat} {A : Nat → Prop} {r : Int32} {τ : St}
def F_Main_copy_0 (s0 : St) (v1 : Int32) (v2 : Int32) (v3 : Int32) (v4 : Int32) (v5 : Int32) : Option (Int32 × St) := (ob1 (F_Main_isSheet v1) (fun r_1 => (if r_1 = 0 then (some ((-2 : Int32), s0)) else (ob1 (F_Main_isSheet v3) (fun r_3 => (if ¬ r_3 = 0 then (if inB v1 4 = true then (if inB v3 4 = true then (if (s0.1 (42 + v1.toNatClampNeg) 1) = (-1 : Int32) then (some ((-11 : Int32), s0)) else (if ¬ (s0.1 (42 + v3.toNatClampNeg) 1) = (-1 : Int32) then (if (s0.1 (42 + v1.toNatClampNeg) 1) = (s0.1 (42 + v3.toNatClampNeg) 1) then (if (F_Sheet_hasPlaces s0 (42 + v1.toNatClampNeg) v2 v5) = 0 then (some ((-12 : Int32), s0)) else (if ¬ (F_Sheet_hasPlaces s0 (42 + v3.toNatClampNeg) v4 v5) = 0 then (if ¬ v2 < 0 then (if ¬ v4 < 0 then (if ¬ v5 < 0 then (if v2.toNatClampNeg + v5.toNatClampNeg ≤ 40 then (if v4.toNatClampNeg + v5.toNatClampNeg ≤ 40 then (lt (cpS s0 ((42 + v1.toNatClampNeg) + 4) ((42 + v3.toNatClampNeg) + 4) v2 v4 v5) (fun s_17 => (some (v5, s_17)))) else none) else none) else none) else none) else none) else (some ((-12 : Int32), s0)))) else (some ((-13 : Int32), s0))) else (some ((-11 : Int32), s0)))) else none) else none) else (some ((-2 : Int32), s0))))))))
set_option maxHeartbeats 4000000 in
set_option maxRecDepth 100000 in
theorem q_Main_copy_0 (K : Fx p s m args meth c b_Main_copy 8 R_Main (some .int))  : ∀ (H : Heap) (locs : List Loc) (ls : Array Slot) (s0 : St) (v1 : Int32) (v2 : Int32) (v3 : Int32) (v4 : Int32) (v5 : Int32), Wh D cA ad shC A s s0 H locs → lv_has ls 8 [(0, .ref (ad 0)), (1, .int v1), (2, .int v2), (3, .int v3), (4, .int v4), (5, .int v5)] → F_Main_copy_0 s0 v1 v2 v3 v4 v5 = (some (r, τ)) → W p l e rm_Main_copy s m args below meth c H locs 0 0 (MQ below (QcI D cA ad shC A r τ) args s 0 0 A) (F0 m 0 ls []) := by
  have hx := K.1.1; have hb := K.1.2.1
  intro H locs ls s0 v1 v2 v3 v4 v5 hw hl hF
  unfold F_Main_copy_0 at hF
  refine lv_iload_n hx hb d_Main_copy_0 rfl (lv_at hl 1 rfl) ?_
  obtain ⟨r_1, h_r_1, hF⟩ := ob1E hF
  refine r_callSI (As := [.int v1]) (rest := []) K hw hl.1 (c_Main_isSheet (l := l) (D := D) (cA := cA) (ad := ad) (s0 := s0)  h_r_1) (tb_gS w_874 w_875 w_63 w_876) a_Main_isSheet ⟨rfl, rfl, Nat.le_of_ble_eq_true rfl, Nat.le_of_ble_eq_true rfl⟩ rfl rfl (Nat.le_of_ble_eq_true rfl) d_Main_copy_1 (fun H locs hw => ?_)
  refine lv_if_eq (tgt := 14) hx hb d_Main_copy_4 (by decide) (fun c_2 => ?_) (fun c_2 => ?_)
  · replace hF := ifT hF c_2
    refine lv_bipush (v := -2) hx hb d_Main_copy_14 (by decide) ?_
    obtain ⟨hF, hG⟩ := sE2 hF
    subst hF
    subst hG
    exact r_iret K hw d_Main_copy_16
  · replace hF := ifF hF c_2
    refine lv_iload_n hx hb d_Main_copy_7 rfl (lv_at hl 3 rfl) ?_
    obtain ⟨r_3, h_r_3, hF⟩ := ob1E hF
    refine r_callSI (As := [.int v3]) (rest := []) K hw hl.1 (c_Main_isSheet (l := l) (D := D) (cA := cA) (ad := ad) (s0 := s0)  h_r_3) (tb_gS w_874 w_875 w_63 w_876) a_Main_isSheet ⟨rfl, rfl, Nat.le_of_ble_eq_true rfl, Nat.le_of_ble_eq_true rfl⟩ rfl rfl (Nat.le_of_ble_eq_true rfl) d_Main_copy_8 (fun H locs hw => ?_)
    refine lv_if_ne (tgt := 17) hx hb d_Main_copy_11 (by decide) (fun c_4 => ?_) (fun c_4 => ?_)
    · replace hF := ifT hF c_4
      refine lv_aload_n hx hb d_Main_copy_17 rfl (lv_at hl 0 rfl) ?_
      refine r_get (v := .ref (ad 3)) K hw i_Main sh_Main rfl 9 (by decide) w_607 rfl rfl rfl d_Main_copy_18 ?_
      refine lv_iload_n hx hb d_Main_copy_21 rfl (lv_at hl 1 rfl) ?_
      obtain ⟨g_5, hF⟩ := ifG hF
      refine r_aald (k := v1.toNatClampNeg) K hw (show shC[3]? = some (.inr (.inr (3, 42, 4))) from rfl) (rfl : (TYS cA)[3]? = some (cA 3, _)) rfl (inB_vp g_5) d_Main_copy_22 ?_
      refine lv_astore (lv' := [(6, .ref (ad (42 + v1.toNatClampNeg))), (0, .ref (ad 0)), (1, .int v1), (2, .int v2), (3, .int v3), (4, .int v4), (5, .int v5)]) hx hb d_Main_copy_23 hl (by decide) rfl (fun ls hl => ?_)
      refine lv_aload_n hx hb d_Main_copy_25 rfl (lv_at hl 1 rfl) ?_
      refine r_get (v := .ref (ad 3)) K hw i_Main sh_Main rfl 9 (by decide) w_607 rfl rfl rfl d_Main_copy_26 ?_
      refine lv_iload_n hx hb d_Main_copy_29 rfl (lv_at hl 4 rfl) ?_
      obtain ⟨g_6, hF⟩ := ifG hF
      refine r_aald (k := v3.toNatClampNeg) K hw (show shC[3]? = some (.inr (.inr (3, 42, 4))) from rfl) (rfl : (TYS cA)[3]? = some (cA 3, _)) rfl (inB_vp g_6) d_Main_copy_30 ?_
      refine lv_astore (lv' := [(7, .ref (ad (42 + v3.toNatClampNeg))), (6, .ref (ad (42 + v1.toNatClampNeg))), (0, .ref (ad 0)), (1, .int v1), (2, .int v2), (3, .int v3), (4, .int v4), (5, .int v5)]) hx hb d_Main_copy_31 hl (by decide) rfl (fun ls hl => ?_)
      refine lv_aload hx hb d_Main_copy_33 (lv_at hl 1 rfl) ?_
      refine r_get (v := .int (s0.1 (42 + v1.toNatClampNeg) 1)) K hw i_Sheet (sh_Sheet (P_Sheet_of g_5)) rfl 1 (by decide) w_192 rfl rfl rfl d_Main_copy_35 ?_
      refine lv_iconst (v := -1) hx hb d_Main_copy_38 (by decide) ?_
      refine lv_icmp_eq (tgt := 51) hx hb d_Main_copy_39 (by decide) (fun c_7 => ?_) (fun c_7 => ?_)
      · replace hF := ifT hF c_7
        refine lv_bipush (v := -11) hx hb d_Main_copy_51 (by decide) ?_
        obtain ⟨hF, hG⟩ := sE2 hF
        subst hF
        subst hG
        exact r_iret K hw d_Main_copy_53
      · replace hF := ifF hF c_7
        refine lv_aload hx hb d_Main_copy_42 (lv_at hl 0 rfl) ?_
        refine r_get (v := .int (s0.1 (42 + v3.toNatClampNeg) 1)) K hw i_Sheet (sh_Sheet (P_Sheet_of g_6)) rfl 1 (by decide) w_192 rfl rfl rfl d_Main_copy_44 ?_
        refine lv_iconst (v := -1) hx hb d_Main_copy_47 (by decide) ?_
        refine lv_icmp_ne (tgt := 54) hx hb d_Main_copy_48 (by decide) (fun c_8 => ?_) (fun c_8 => ?_)
        · replace hF := ifT hF c_8
          refine lv_aload hx hb d_Main_copy_54 (lv_at hl 1 rfl) ?_
          refine r_get (v := .int (s0.1 (42 + v1.toNatClampNeg) 1)) K hw i_Sheet (sh_Sheet (P_Sheet_of g_5)) rfl 1 (by decide) w_192 rfl rfl rfl d_Main_copy_56 ?_
          refine lv_aload hx hb d_Main_copy_59 (lv_at hl 0 rfl) ?_
          refine r_get (v := .int (s0.1 (42 + v3.toNatClampNeg) 1)) K hw i_Sheet (sh_Sheet (P_Sheet_of g_6)) rfl 1 (by decide) w_192 rfl rfl rfl d_Main_copy_61 ?_
          refine lv_icmp_eq (tgt := 70) hx hb d_Main_copy_64 (by decide) (fun c_9 => ?_) (fun c_9 => ?_)
          · replace hF := ifT hF c_9
            refine lv_aload hx hb d_Main_copy_70 (lv_at hl 1 rfl) ?_
            refine lv_iload_n hx hb d_Main_copy_72 rfl (lv_at hl 4 rfl) ?_
            refine lv_iload hx hb d_Main_copy_73 (lv_at hl 7 rfl) ?_
            refine r_callVI (As := [.int v2, .int v5]) (rest := []) K hw hl.1 (c_Sheet_hasPlaces (l := l) (D := D) (cA := cA) (ad := ad) (s0 := s0) (P_Sheet_of g_5) rfl) (sh_Sheet (P_Sheet_of g_5)) rfl (tb_gV w_956 w_957 w_958 w_67 w_959) a_Sheet_hasPlaces ⟨rfl, rfl, Nat.le_of_ble_eq_true rfl, Nat.le_of_ble_eq_true rfl⟩ rfl rfl (Nat.le_of_ble_eq_true rfl) d_Main_copy_75 (fun H locs hw => ?_)
            refine lv_if_eq (tgt := 93) hx hb d_Main_copy_78 (by decide) (fun c_10 => ?_) (fun c_10 => ?_)
            · replace hF := ifT hF c_10
              refine lv_bipush (v := -12) hx hb d_Main_copy_93 (by decide) ?_
              obtain ⟨hF, hG⟩ := sE2 hF
              subst hF
              subst hG
              exact r_iret K hw d_Main_copy_95
            · replace hF := ifF hF c_10
              refine lv_aload hx hb d_Main_copy_81 (lv_at hl 0 rfl) ?_
              refine lv_iload hx hb d_Main_copy_83 (lv_at hl 6 rfl) ?_
              refine lv_iload hx hb d_Main_copy_85 (lv_at hl 7 rfl) ?_
              refine r_callVI (As := [.int v4, .int v5]) (rest := []) K hw hl.1 (c_Sheet_hasPlaces (l := l) (D := D) (cA := cA) (ad := ad) (s0 := s0) (P_Sheet_of g_6) rfl) (sh_Sheet (P_Sheet_of g_6)) rfl (tb_gV w_956 w_957 w_958 w_67 w_959) a_Sheet_hasPlaces ⟨rfl, rfl, Nat.le_of_ble_eq_true rfl, Nat.le_of_ble_eq_true rfl⟩ rfl rfl (Nat.le_of_ble_eq_true rfl) d_Main_copy_87 (fun H locs hw => ?_)
              refine lv_if_ne (tgt := 96) hx hb d_Main_copy_90 (by decide) (fun c_11 => ?_) (fun c_11 => ?_)
              · replace hF := ifT hF c_11
                refine lv_aload hx hb d_Main_copy_96 (lv_at hl 1 rfl) ?_
                refine r_get (v := .ref (ad ((42 + v1.toNatClampNeg) + 4))) K hw i_Sheet (sh_Sheet (P_Sheet_of g_5)) rfl 0 (by decide) w_190 rfl rfl rfl d_Main_copy_98 ?_
                refine lv_iload_n hx hb d_Main_copy_101 rfl (lv_at hl 4 rfl) ?_
                refine lv_aload hx hb d_Main_copy_102 (lv_at hl 0 rfl) ?_
                refine r_get (v := .ref (ad ((42 + v3.toNatClampNeg) + 4))) K hw i_Sheet (sh_Sheet (P_Sheet_of g_6)) rfl 0 (by decide) w_190 rfl rfl rfl d_Main_copy_104 ?_
                refine lv_iload hx hb d_Main_copy_107 (lv_at hl 6 rfl) ?_
                refine lv_iload hx hb d_Main_copy_109 (lv_at hl 7 rfl) ?_
                obtain ⟨g_12, hF⟩ := ifG hF
                obtain ⟨g_13, hF⟩ := ifG hF
                obtain ⟨g_14, hF⟩ := ifG hF
                obtain ⟨g_15, hF⟩ := ifG hF
                obtain ⟨g_16, hF⟩ := ifG hF
                refine k_copy (rest := []) K hw hl.1 w_960 w_962 w_961 w_82 (show shC[((42 + v1.toNatClampNeg) + 4)]? = some (.inr (.inl 40)) from (sh_numbersOf (P_Sheet_of g_5))) (show shC[((42 + v3.toNatClampNeg) + 4)]? = some (.inr (.inl 40)) from (sh_numbersOf (P_Sheet_of g_6))) g_12 g_13 g_14 g_15 g_16 (Nat.le_of_ble_eq_true rfl) (Nat.le_of_ble_eq_true rfl) d_Main_copy_111 (fun s_17 f_s_17 H locs hw => ?_)
                replace hF := ltN hF f_s_17
                refine lv_iload hx hb d_Main_copy_114 (lv_at hl 7 rfl) ?_
                obtain ⟨hF, hG⟩ := sE2 hF
                subst hF
                subst hG
                exact r_iret K hw d_Main_copy_116
              · replace hF := ifN hF c_11
                refine lv_bipush (v := -12) hx hb d_Main_copy_93 (by decide) ?_
                obtain ⟨hF, hG⟩ := sE2 hF
                subst hF
                subst hG
                exact r_iret K hw d_Main_copy_95
          · replace hF := ifF hF c_9
            refine lv_bipush (v := -13) hx hb d_Main_copy_67 (by decide) ?_
            obtain ⟨hF, hG⟩ := sE2 hF
            subst hF
            subst hG
            exact r_iret K hw d_Main_copy_69
        · replace hF := ifN hF c_8
          refine lv_bipush (v := -11) hx hb d_Main_copy_51 (by decide) ?_
          obtain ⟨hF, hG⟩ := sE2 hF
          subst hF
          subst hG
          exact r_iret K hw d_Main_copy_53
    · replace hF := ifN hF c_4
      refine lv_bipush (v := -2) hx hb d_Main_copy_14 (by decide) ?_
      obtain ⟨hF, hG⟩ := sE2 hF
      subst hF
      subst hG
      exact r_iret K hw d_Main_copy_16
end S_Main_copy
abbrev F_Main_copy := F_Main_copy_0
theorem c_Main_copy {l : Launch} {D : va_G} {cA : Nat → ClassId} {ad : Nat → Nat} {s0 τ : St} {r : Int32} {v1 : Int32} {v2 : Int32} {v3 : Int32} {v4 : Int32} {v5 : Int32}  (hF : F_Main_copy s0 v1 v2 v3 v4 v5 = (some (r, τ))) : MI l D cA ad shC y_Main_copy (wT y_Main_copy b_Main_copy 8 (some .int)) rm_Main_copy [.ref (ad 0), .int v1, .int v2, .int v3, .int v4, .int v5] s0 r τ := fun sz => m_start (Qc := fun A => QcI D cA ad shC A r τ) (by decide +kernel) w_955 (Nat.le_of_ble_eq_true rfl) (fun p e s m below meth c ls K hl hw => q_Main_copy_0 K _ _ _ _ _ _ _ _ _  hw hl hF)

/-! Main.armsBy(IIII)I -/
abbrev b_Main_armsBy : ByteArray := prog_1_method_33_code
def y_Main_armsBy : MethodName := ⟨R_Main, "armsBy", "(IIII)I"⟩
theorem a_Main_armsBy : y_Main_armsBy.cls = R_Main ∧ y_Main_armsBy.cls ≠ "java/lang/invoke/MethodHandle" ∧ y_Main_armsBy.cls ≠ "java/lang/invoke/VarHandle" ∧ (parseMethodDescriptor y_Main_armsBy.desc).map (fun d => d.parameters.length) = some 4 := by decide +kernel
abbrev rm_Main_armsBy : Room := { frames := 4, cells := 0, slots := 0, locals := 91 }
theorem w_966 : Cond.code y_Main_armsBy b_Main_armsBy 9 (some .int) ∈ TB := tb_in 966 (by decide +kernel) (by decide +kernel)
theorem d_Main_armsBy_0 : decode b_Main_armsBy 0 = .ok (.iload_n 1, 1) := by decide +kernel
theorem d_Main_armsBy_1 : decode b_Main_armsBy 1 = .ok (.invokestatic 255, 3) := by decide +kernel
theorem d_Main_armsBy_4 : decode b_Main_armsBy 4 = .ok (.ifCond .eq 23, 3) := by decide +kernel
theorem d_Main_armsBy_7 : decode b_Main_armsBy 7 = .ok (.iload_n 2, 1) := by decide +kernel
theorem d_Main_armsBy_8 : decode b_Main_armsBy 8 = .ok (.iconst 0, 1) := by decide +kernel
theorem d_Main_armsBy_9 : decode b_Main_armsBy 9 = .ok (.iconst 2, 1) := by decide +kernel
theorem d_Main_armsBy_10 : decode b_Main_armsBy 10 = .ok (.invokestatic 108, 3) := by decide +kernel
theorem d_Main_armsBy_13 : decode b_Main_armsBy 13 = .ok (.ifCond .eq 14, 3) := by decide +kernel
theorem d_Main_armsBy_16 : decode b_Main_armsBy 16 = .ok (.iload 4, 2) := by decide +kernel
theorem d_Main_armsBy_18 : decode b_Main_armsBy 18 = .ok (.iconst 0, 1) := by decide +kernel
theorem d_Main_armsBy_19 : decode b_Main_armsBy 19 = .ok (.bipush 6, 2) := by decide +kernel
theorem d_Main_armsBy_21 : decode b_Main_armsBy 21 = .ok (.invokestatic 108, 3) := by decide +kernel
theorem d_Main_armsBy_24 : decode b_Main_armsBy 24 = .ok (.ifCond .ne 6, 3) := by decide +kernel
theorem d_Main_armsBy_27 : decode b_Main_armsBy 27 = .ok (.bipush (-2), 2) := by decide +kernel
theorem d_Main_armsBy_29 : decode b_Main_armsBy 29 = .ok (.ireturn, 1) := by decide +kernel
theorem d_Main_armsBy_30 : decode b_Main_armsBy 30 = .ok (.aload_n 0, 1) := by decide +kernel
theorem d_Main_armsBy_31 : decode b_Main_armsBy 31 = .ok (.getfield 30, 3) := by decide +kernel
theorem d_Main_armsBy_34 : decode b_Main_armsBy 34 = .ok (.iload_n 1, 1) := by decide +kernel
theorem d_Main_armsBy_35 : decode b_Main_armsBy 35 = .ok (.aaload, 1) := by decide +kernel
theorem d_Main_armsBy_36 : decode b_Main_armsBy 36 = .ok (.astore 5, 2) := by decide +kernel
theorem d_Main_armsBy_38 : decode b_Main_armsBy 38 = .ok (.aload 5, 2) := by decide +kernel
theorem d_Main_armsBy_40 : decode b_Main_armsBy 40 = .ok (.getfield 281, 3) := by decide +kernel
theorem d_Main_armsBy_43 : decode b_Main_armsBy 43 = .ok (.iconst (-1), 1) := by decide +kernel
theorem d_Main_armsBy_44 : decode b_Main_armsBy 44 = .ok (.if_icmp .ne 6, 3) := by decide +kernel
theorem d_Main_armsBy_47 : decode b_Main_armsBy 47 = .ok (.bipush (-11), 2) := by decide +kernel
theorem d_Main_armsBy_49 : decode b_Main_armsBy 49 = .ok (.ireturn, 1) := by decide +kernel
theorem d_Main_armsBy_50 : decode b_Main_armsBy 50 = .ok (.aload 5, 2) := by decide +kernel
theorem d_Main_armsBy_52 : decode b_Main_armsBy 52 = .ok (.getfield 281, 3) := by decide +kernel
theorem d_Main_armsBy_55 : decode b_Main_armsBy 55 = .ok (.iload_n 2, 1) := by decide +kernel
theorem d_Main_armsBy_56 : decode b_Main_armsBy 56 = .ok (.if_icmp .eq 6, 3) := by decide +kernel
theorem d_Main_armsBy_59 : decode b_Main_armsBy 59 = .ok (.bipush (-13), 2) := by decide +kernel
theorem d_Main_armsBy_61 : decode b_Main_armsBy 61 = .ok (.ireturn, 1) := by decide +kernel
theorem d_Main_armsBy_62 : decode b_Main_armsBy 62 = .ok (.iconst 0, 1) := by decide +kernel
theorem d_Main_armsBy_63 : decode b_Main_armsBy 63 = .ok (.istore 6, 2) := by decide +kernel
theorem d_Main_armsBy_65 : decode b_Main_armsBy 65 = .ok (.iload_n 3, 1) := by decide +kernel
theorem d_Main_armsBy_66 : decode b_Main_armsBy 66 = .ok (.istore 7, 2) := by decide +kernel
theorem d_Main_armsBy_68 : decode b_Main_armsBy 68 = .ok (.iconst 0, 1) := by decide +kernel
theorem d_Main_armsBy_69 : decode b_Main_armsBy 69 = .ok (.istore 8, 2) := by decide +kernel
theorem d_Main_armsBy_71 : decode b_Main_armsBy 71 = .ok (.iload 8, 2) := by decide +kernel
theorem d_Main_armsBy_73 : decode b_Main_armsBy 73 = .ok (.iload 4, 2) := by decide +kernel
theorem d_Main_armsBy_75 : decode b_Main_armsBy 75 = .ok (.if_icmp .ge 61, 3) := by decide +kernel
theorem d_Main_armsBy_78 : decode b_Main_armsBy 78 = .ok (.aload 5, 2) := by decide +kernel
theorem d_Main_armsBy_80 : decode b_Main_armsBy 80 = .ok (.iload 7, 2) := by decide +kernel
theorem d_Main_armsBy_82 : decode b_Main_armsBy 82 = .ok (.iconst 3, 1) := by decide +kernel
theorem d_Main_armsBy_83 : decode b_Main_armsBy 83 = .ok (.invokevirtual 287, 3) := by decide +kernel
theorem d_Main_armsBy_86 : decode b_Main_armsBy 86 = .ok (.ifCond .ne 6, 3) := by decide +kernel
theorem d_Main_armsBy_89 : decode b_Main_armsBy 89 = .ok (.bipush (-12), 2) := by decide +kernel
theorem d_Main_armsBy_91 : decode b_Main_armsBy 91 = .ok (.ireturn, 1) := by decide +kernel
theorem d_Main_armsBy_92 : decode b_Main_armsBy 92 = .ok (.aload_n 0, 1) := by decide +kernel
theorem d_Main_armsBy_93 : decode b_Main_armsBy 93 = .ok (.aload 5, 2) := by decide +kernel
theorem d_Main_armsBy_95 : decode b_Main_armsBy 95 = .ok (.iload 7, 2) := by decide +kernel
theorem d_Main_armsBy_97 : decode b_Main_armsBy 97 = .ok (.invokevirtual 299, 3) := by decide +kernel
theorem d_Main_armsBy_100 : decode b_Main_armsBy 100 = .ok (.aload 5, 2) := by decide +kernel
theorem d_Main_armsBy_102 : decode b_Main_armsBy 102 = .ok (.iload 7, 2) := by decide +kernel
theorem d_Main_armsBy_104 : decode b_Main_armsBy 104 = .ok (.iconst 1, 1) := by decide +kernel
theorem d_Main_armsBy_105 : decode b_Main_armsBy 105 = .ok (.iadd, 1) := by decide +kernel
theorem d_Main_armsBy_106 : decode b_Main_armsBy 106 = .ok (.invokevirtual 299, 3) := by decide +kernel
theorem d_Main_armsBy_109 : decode b_Main_armsBy 109 = .ok (.aload 5, 2) := by decide +kernel
theorem d_Main_armsBy_111 : decode b_Main_armsBy 111 = .ok (.iload 7, 2) := by decide +kernel
theorem d_Main_armsBy_113 : decode b_Main_armsBy 113 = .ok (.iconst 2, 1) := by decide +kernel
theorem d_Main_armsBy_114 : decode b_Main_armsBy 114 = .ok (.iadd, 1) := by decide +kernel
theorem d_Main_armsBy_115 : decode b_Main_armsBy 115 = .ok (.invokevirtual 299, 3) := by decide +kernel
theorem d_Main_armsBy_118 : decode b_Main_armsBy 118 = .ok (.invokevirtual 148, 3) := by decide +kernel
theorem d_Main_armsBy_121 : decode b_Main_armsBy 121 = .ok (.ifCond .lt 6, 3) := by decide +kernel
theorem d_Main_armsBy_124 : decode b_Main_armsBy 124 = .ok (.iinc 6 1, 3) := by decide +kernel
theorem d_Main_armsBy_127 : decode b_Main_armsBy 127 = .ok (.iinc 7 3, 3) := by decide +kernel
theorem d_Main_armsBy_130 : decode b_Main_armsBy 130 = .ok (.iinc 8 1, 3) := by decide +kernel
theorem d_Main_armsBy_133 : decode b_Main_armsBy 133 = .ok (.goto (-62), 3) := by decide +kernel
theorem d_Main_armsBy_136 : decode b_Main_armsBy 136 = .ok (.iload 6, 2) := by decide +kernel
theorem d_Main_armsBy_138 : decode b_Main_armsBy 138 = .ok (.ireturn, 1) := by decide +kernel
section S_Main_armsBy
variable {p : Program} {l : Launch} {e : Env} {s : State} {m : MethodId} {args : Array Value} {below : List Frame} {meth : Method} {c : Code} {D : va_G} {cA : Nat → ClassId} {ad : Nat → Nat} {A : Nat → Prop} {r : Int32} {τ : St}
def F_Main_armsBy_127 (k38 : (St → Int32 → Nat → Int32 → Int32 → Int32 → Option (Int32 × St))) (s0 : St) (v4 : Int32) (v5 : Nat) (v6 : Int32) (v7 : Int32) (v8 : Int32) : Option (Int32 × St) := (k38 s0 v4 v5 v6 (v7 + 3) (v8 + 1))
set_option maxHeartbeats 4000000 in
set_option maxRecDepth 100000 in
theorem q_Main_armsBy_127 (K : Fx p s m args meth c b_Main_armsBy 9 R_Main (some .int)) (k38 : (St → Int32 → Nat → Int32 → Int32 → Int32 → Option (Int32 × St))) (hk38 : ∀ (H : Heap) (locs : List Loc) (ls : Array Slot) (s0 : St) (v4 : Int32) (v5 : Nat) (v6 : Int32) (v7 : Int32) (v8 : Int32) (g_v5 : P_Sheet v5), Wh D cA ad shC A s s0 H locs → lv_has ls 9 [(0, .ref (ad 0)), (4, .int v4), (5, .ref (ad v5)), (6, .int v6), (7, .int v7), (8, .int v8)] → k38 s0 v4 v5 v6 v7 v8 = (some (r, τ)) → W p l e rm_Main_armsBy s m args below meth c H locs 0 0 (MQ below (QcI D cA ad shC A r τ) args s 0 0 A) (F0 m 71 ls [])) : ∀ (H : Heap) (locs : List Loc) (ls : Array Slot) (s0 : St) (v4 : Int32) (v5 : Nat) (v6 : Int32) (v7 : Int32) (v8 : Int32) (g_v5 : P_Sheet v5), Wh D cA ad shC A s s0 H locs → lv_has ls 9 [(0, .ref (ad 0)), (4, .int v4), (5, .ref (ad v5)), (6, .int v6), (7, .int v7), (8, .int v8)] → F_Main_armsBy_127 k38 s0 v4 v5 v6 v7 v8 = (some (r, τ)) → W p l e rm_Main_armsBy s m args below meth c H locs 0 0 (MQ below (QcI D cA ad shC A r τ) args s 0 0 A) (F0 m 127 ls []) := by
  have hx := K.1.1; have hb := K.1.2.1
  intro H locs ls s0 v4 v5 v6 v7 v8 g_v5 hw hl hF
  unfold F_Main_armsBy_127 at hF
  refine lv_iinc (v := (v7 + 3)) (lv' := [(7, .int (v7 + 3)), (0, .ref (ad 0)), (4, .int v4), (5, .ref (ad v5)), (6, .int v6), (8, .int v8)]) hx hb d_Main_armsBy_127 hl (k := 4) rfl rfl (by decide) rfl (fun ls hl => ?_)
  refine lv_iinc (v := (v8 + 1)) (lv' := [(8, .int (v8 + 1)), (7, .int (v7 + 3)), (0, .ref (ad 0)), (4, .int v4), (5, .ref (ad v5)), (6, .int v6)]) hx hb d_Main_armsBy_130 hl (k := 5) rfl rfl (by decide) rfl (fun ls hl => ?_)
  refine lv_goto (tgt := 71) hx hb d_Main_armsBy_133 (by decide) ?_
  exact hk38 _ _ _ _ _ _ _ _ _ g_v5 hw (lv_sub hl [2, 3, 4, 5, 1, 0] rfl) hF
def F_Main_armsBy_71 : Nat → St → Int32 → Nat → Int32 → Int32 → Int32 → Option (Int32 × St)
  | 0, _, _, _, _, _, _ => none
  | n + 1, s0, v4, v5, v6, v7, v8 => (if v4 ≤ v8 then (some (v6, s0)) else (if ¬ (F_Sheet_hasPlaces s0 v5 v7 (3 : Int32)) = 0 then (ob1 (F_Sheet_at s0 v5 v7) (fun r_10 => (ob1 (F_Sheet_at s0 v5 (v7 + (1 : Int32))) (fun r_11 => (ob1 (F_Sheet_at s0 v5 (v7 + (2 : Int32))) (fun r_12 => (ob2 (F_Main_armComes s0 r_10 r_11 r_12) (fun r_13 s_14 => (if r_13 < 0 then (F_Main_armsBy_127 (fun z0 zv4 zv5 zv6 zv7 zv8 => F_Main_armsBy_71 n z0 zv4 zv5 zv6 zv7 zv8) s_14 v4 v5 v6 v7 v8) else (F_Main_armsBy_127 (fun z0 zv4 zv5 zv6 zv7 zv8 => F_Main_armsBy_71 n z0 zv4 zv5 zv6 zv7 zv8) s_14 v4 v5 (v6 + 1) v7 v8)))))))))) else (some ((-12 : Int32), s0))))
set_option maxHeartbeats 4000000 in
set_option maxRecDepth 100000 in
theorem q_Main_armsBy_71 (K : Fx p s m args meth c b_Main_armsBy 9 R_Main (some .int))  : ∀ (n : Nat), ∀ (H : Heap) (locs : List Loc) (ls : Array Slot) (s0 : St) (v4 : Int32) (v5 : Nat) (v6 : Int32) (v7 : Int32) (v8 : Int32) (g_v5 : P_Sheet v5), Wh D cA ad shC A s s0 H locs → lv_has ls 9 [(0, .ref (ad 0)), (4, .int v4), (5, .ref (ad v5)), (6, .int v6), (7, .int v7), (8, .int v8)] → F_Main_armsBy_71 n s0 v4 v5 v6 v7 v8 = (some (r, τ)) → W p l e rm_Main_armsBy s m args below meth c H locs 0 0 (MQ below (QcI D cA ad shC A r τ) args s 0 0 A) (F0 m 71 ls []) := by
  have hx := K.1.1; have hb := K.1.2.1
  intro n
  induction n with
  | zero =>
    intro H locs ls s0 v4 v5 v6 v7 v8 g_v5 hw hl hF
    exact absurd hF (by rw [F_Main_armsBy_71]; exact nofun)
  | succ n ih =>
    intro H locs ls s0 v4 v5 v6 v7 v8 g_v5 hw hl hF
    rw [F_Main_armsBy_71] at hF
    refine lv_iload hx hb d_Main_armsBy_71 (lv_at hl 5 rfl) ?_
    refine lv_iload hx hb d_Main_armsBy_73 (lv_at hl 1 rfl) ?_
    refine lv_icmp_ge (tgt := 136) hx hb d_Main_armsBy_75 (by decide) (fun c_8 => ?_) (fun c_8 => ?_)
    · replace hF := ifT hF c_8
      refine lv_iload hx hb d_Main_armsBy_136 (lv_at hl 3 rfl) ?_
      obtain ⟨hF, hG⟩ := sE2 hF
      subst hF
      subst hG
      exact r_iret K hw d_Main_armsBy_138
    · replace hF := ifF hF c_8
      refine lv_aload hx hb d_Main_armsBy_78 (lv_at hl 2 rfl) ?_
      refine lv_iload hx hb d_Main_armsBy_80 (lv_at hl 4 rfl) ?_
      refine lv_iconst (v := 3) hx hb d_Main_armsBy_82 (by decide) ?_
      refine r_callVI (As := [.int v7, .int (3 : Int32)]) (rest := []) K hw hl.1 (c_Sheet_hasPlaces (l := l) (D := D) (cA := cA) (ad := ad) (s0 := s0) g_v5 rfl) (sh_Sheet g_v5) rfl (tb_gV w_956 w_957 w_958 w_67 w_959) a_Sheet_hasPlaces ⟨rfl, rfl, Nat.le_of_ble_eq_true rfl, Nat.le_of_ble_eq_true rfl⟩ rfl rfl (Nat.le_of_ble_eq_true rfl) d_Main_armsBy_83 (fun H locs hw => ?_)
      refine lv_if_ne (tgt := 92) hx hb d_Main_armsBy_86 (by decide) (fun c_9 => ?_) (fun c_9 => ?_)
      · replace hF := ifT hF c_9
        refine lv_aload_n hx hb d_Main_armsBy_92 rfl (lv_at hl 0 rfl) ?_
        refine lv_aload hx hb d_Main_armsBy_93 (lv_at hl 2 rfl) ?_
        refine lv_iload hx hb d_Main_armsBy_95 (lv_at hl 4 rfl) ?_
        obtain ⟨r_10, h_r_10, hF⟩ := ob1E hF
        refine r_callVI (As := [.int v7]) (rest := [.ref (ad 0)]) K hw hl.1 (c_Sheet_at (l := l) (D := D) (cA := cA) (ad := ad) (s0 := s0) g_v5 h_r_10) (sh_Sheet g_v5) rfl (tb_gV w_881 w_882 w_883 w_67 w_884) a_Sheet_at ⟨rfl, rfl, Nat.le_of_ble_eq_true rfl, Nat.le_of_ble_eq_true rfl⟩ rfl rfl (Nat.le_of_ble_eq_true rfl) d_Main_armsBy_97 (fun H locs hw => ?_)
        refine lv_aload hx hb d_Main_armsBy_100 (lv_at hl 2 rfl) ?_
        refine lv_iload hx hb d_Main_armsBy_102 (lv_at hl 4 rfl) ?_
        refine lv_iconst (v := 1) hx hb d_Main_armsBy_104 (by decide) ?_
        refine lv_iadd hx hb d_Main_armsBy_105 ?_
        obtain ⟨r_11, h_r_11, hF⟩ := ob1E hF
        refine r_callVI (As := [.int (v7 + (1 : Int32))]) (rest := [.int r_10, .ref (ad 0)]) K hw hl.1 (c_Sheet_at (l := l) (D := D) (cA := cA) (ad := ad) (s0 := s0) g_v5 h_r_11) (sh_Sheet g_v5) rfl (tb_gV w_881 w_882 w_883 w_67 w_884) a_Sheet_at ⟨rfl, rfl, Nat.le_of_ble_eq_true rfl, Nat.le_of_ble_eq_true rfl⟩ rfl rfl (Nat.le_of_ble_eq_true rfl) d_Main_armsBy_106 (fun H locs hw => ?_)
        refine lv_aload hx hb d_Main_armsBy_109 (lv_at hl 2 rfl) ?_
        refine lv_iload hx hb d_Main_armsBy_111 (lv_at hl 4 rfl) ?_
        refine lv_iconst (v := 2) hx hb d_Main_armsBy_113 (by decide) ?_
        refine lv_iadd hx hb d_Main_armsBy_114 ?_
        obtain ⟨r_12, h_r_12, hF⟩ := ob1E hF
        refine r_callVI (As := [.int (v7 + (2 : Int32))]) (rest := [.int r_11, .int r_10, .ref (ad 0)]) K hw hl.1 (c_Sheet_at (l := l) (D := D) (cA := cA) (ad := ad) (s0 := s0) g_v5 h_r_12) (sh_Sheet g_v5) rfl (tb_gV w_881 w_882 w_883 w_67 w_884) a_Sheet_at ⟨rfl, rfl, Nat.le_of_ble_eq_true rfl, Nat.le_of_ble_eq_true rfl⟩ rfl rfl (Nat.le_of_ble_eq_true rfl) d_Main_armsBy_115 (fun H locs hw => ?_)
        obtain ⟨r_13, s_14, h_s_14, hF⟩ := ob2E hF
        refine r_callVI (As := [.int r_10, .int r_11, .int r_12]) (rest := []) K hw hl.1 (c_Main_armComes (l := l) (D := D) (cA := cA) (ad := ad) (s0 := s0)  h_s_14) sh_Main rfl (tb_gV w_689 w_691 w_15 w_63 w_692) a_Main_armComes ⟨rfl, rfl, Nat.le_of_ble_eq_true rfl, Nat.le_of_ble_eq_true rfl⟩ rfl rfl (Nat.le_of_ble_eq_true rfl) d_Main_armsBy_118 (fun H locs hw => ?_)
        refine lv_if_lt (tgt := 127) hx hb d_Main_armsBy_121 (by decide) (fun c_15 => ?_) (fun c_15 => ?_)
        · replace hF := ifT hF c_15
          exact q_Main_armsBy_127 K (fun z0 zv4 zv5 zv6 zv7 zv8 => F_Main_armsBy_71 n z0 zv4 zv5 zv6 zv7 zv8) ih _ _ _ _ _ _ _ _ _ g_v5 hw (lv_sub hl [0, 1, 2, 3, 4, 5] rfl) hF
        · replace hF := ifF hF c_15
          refine lv_iinc (v := (v6 + 1)) (lv' := [(6, .int (v6 + 1)), (0, .ref (ad 0)), (4, .int v4), (5, .ref (ad v5)), (7, .int v7), (8, .int v8)]) hx hb d_Main_armsBy_124 hl (k := 3) rfl rfl (by decide) rfl (fun ls hl => ?_)
          exact q_Main_armsBy_127 K (fun z0 zv4 zv5 zv6 zv7 zv8 => F_Main_armsBy_71 n z0 zv4 zv5 zv6 zv7 zv8) ih _ _ _ _ _ _ _ _ _ g_v5 hw (lv_sub hl [1, 2, 3, 0, 4, 5] rfl) hF
      · replace hF := ifN hF c_9
        refine lv_bipush (v := -12) hx hb d_Main_armsBy_89 (by decide) ?_
        obtain ⟨hF, hG⟩ := sE2 hF
        subst hF
        subst hG
        exact r_iret K hw d_Main_armsBy_91
def F_Main_armsBy_0 (s0 : St) (v1 : Int32) (v2 : Int32) (v3 : Int32) (v4 : Int32) : Option (Int32 × St) := (ob1 (F_Main_isSheet v1) (fun r_1 => (if r_1 = 0 then (some ((-2 : Int32), s0)) else (if (F_Main_isWithin v2 (0 : Int32) (2 : Int32)) = 0 then (some ((-2 : Int32), s0)) else (if ¬ (F_Main_isWithin v4 (0 : Int32) (6 : Int32)) = 0 then (if inB v1 4 = true then (if ¬ (s0.1 (42 + v1.toNatClampNeg) 1) = (-1 : Int32) then (if (s0.1 (42 + v1.toNatClampNeg) 1) = v2 then (F_Main_armsBy_71 FU s0 v4 (42 + v1.toNatClampNeg) (0 : Int32) v3 (0 : Int32)) else (some ((-13 : Int32), s0))) else (some ((-11 : Int32), s0))) else none) else (some ((-2 : Int32), s0)))))))
set_option maxHeartbeats 4000000 in
set_option maxRecDepth 100000 in
theorem q_Main_armsBy_0 (K : Fx p s m args meth c b_Main_armsBy 9 R_Main (some .int))  : ∀ (H : Heap) (locs : List Loc) (ls : Array Slot) (s0 : St) (v1 : Int32) (v2 : Int32) (v3 : Int32) (v4 : Int32), Wh D cA ad shC A s s0 H locs → lv_has ls 9 [(0, .ref (ad 0)), (1, .int v1), (2, .int v2), (3, .int v3), (4, .int v4)] → F_Main_armsBy_0 s0 v1 v2 v3 v4 = (some (r, τ)) → W p l e rm_Main_armsBy s m args below meth c H locs 0 0 (MQ below (QcI D cA ad shC A r τ) args s 0 0 A) (F0 m 0 ls []) := by
  have hx := K.1.1; have hb := K.1.2.1
  intro H locs ls s0 v1 v2 v3 v4 hw hl hF
  unfold F_Main_armsBy_0 at hF
  refine lv_iload_n hx hb d_Main_armsBy_0 rfl (lv_at hl 1 rfl) ?_
  obtain ⟨r_1, h_r_1, hF⟩ := ob1E hF
  refine r_callSI (As := [.int v1]) (rest := []) K hw hl.1 (c_Main_isSheet (l := l) (D := D) (cA := cA) (ad := ad) (s0 := s0)  h_r_1) (tb_gS w_874 w_875 w_63 w_876) a_Main_isSheet ⟨rfl, rfl, Nat.le_of_ble_eq_true rfl, Nat.le_of_ble_eq_true rfl⟩ rfl rfl (Nat.le_of_ble_eq_true rfl) d_Main_armsBy_1 (fun H locs hw => ?_)
  refine lv_if_eq (tgt := 27) hx hb d_Main_armsBy_4 (by decide) (fun c_2 => ?_) (fun c_2 => ?_)
  · replace hF := ifT hF c_2
    refine lv_bipush (v := -2) hx hb d_Main_armsBy_27 (by decide) ?_
    obtain ⟨hF, hG⟩ := sE2 hF
    subst hF
    subst hG
    exact r_iret K hw d_Main_armsBy_29
  · replace hF := ifF hF c_2
    refine lv_iload_n hx hb d_Main_armsBy_7 rfl (lv_at hl 2 rfl) ?_
    refine lv_iconst (v := 0) hx hb d_Main_armsBy_8 (by decide) ?_
    refine lv_iconst (v := 2) hx hb d_Main_armsBy_9 (by decide) ?_
    refine r_callSI (As := [.int v2, .int (0 : Int32), .int (2 : Int32)]) (rest := []) K hw hl.1 (c_Main_isWithin (l := l) (D := D) (cA := cA) (ad := ad) (s0 := s0)  rfl) (tb_gS w_640 w_347 w_63 w_348) a_Main_isWithin ⟨rfl, rfl, Nat.le_of_ble_eq_true rfl, Nat.le_of_ble_eq_true rfl⟩ rfl rfl (Nat.le_of_ble_eq_true rfl) d_Main_armsBy_10 (fun H locs hw => ?_)
    refine lv_if_eq (tgt := 27) hx hb d_Main_armsBy_13 (by decide) (fun c_3 => ?_) (fun c_3 => ?_)
    · replace hF := ifT hF c_3
      refine lv_bipush (v := -2) hx hb d_Main_armsBy_27 (by decide) ?_
      obtain ⟨hF, hG⟩ := sE2 hF
      subst hF
      subst hG
      exact r_iret K hw d_Main_armsBy_29
    · replace hF := ifF hF c_3
      refine lv_iload hx hb d_Main_armsBy_16 (lv_at hl 4 rfl) ?_
      refine lv_iconst (v := 0) hx hb d_Main_armsBy_18 (by decide) ?_
      refine lv_bipush (v := 6) hx hb d_Main_armsBy_19 (by decide) ?_
      refine r_callSI (As := [.int v4, .int (0 : Int32), .int (6 : Int32)]) (rest := []) K hw hl.1 (c_Main_isWithin (l := l) (D := D) (cA := cA) (ad := ad) (s0 := s0)  rfl) (tb_gS w_640 w_347 w_63 w_348) a_Main_isWithin ⟨rfl, rfl, Nat.le_of_ble_eq_true rfl, Nat.le_of_ble_eq_true rfl⟩ rfl rfl (Nat.le_of_ble_eq_true rfl) d_Main_armsBy_21 (fun H locs hw => ?_)
      refine lv_if_ne (tgt := 30) hx hb d_Main_armsBy_24 (by decide) (fun c_4 => ?_) (fun c_4 => ?_)
      · replace hF := ifT hF c_4
        refine lv_aload_n hx hb d_Main_armsBy_30 rfl (lv_at hl 0 rfl) ?_
        refine r_get (v := .ref (ad 3)) K hw i_Main sh_Main rfl 9 (by decide) w_607 rfl rfl rfl d_Main_armsBy_31 ?_
        refine lv_iload_n hx hb d_Main_armsBy_34 rfl (lv_at hl 1 rfl) ?_
        obtain ⟨g_5, hF⟩ := ifG hF
        refine r_aald (k := v1.toNatClampNeg) K hw (show shC[3]? = some (.inr (.inr (3, 42, 4))) from rfl) (rfl : (TYS cA)[3]? = some (cA 3, _)) rfl (inB_vp g_5) d_Main_armsBy_35 ?_
        refine lv_astore (lv' := [(5, .ref (ad (42 + v1.toNatClampNeg))), (0, .ref (ad 0)), (1, .int v1), (2, .int v2), (3, .int v3), (4, .int v4)]) hx hb d_Main_armsBy_36 hl (by decide) rfl (fun ls hl => ?_)
        refine lv_aload hx hb d_Main_armsBy_38 (lv_at hl 0 rfl) ?_
        refine r_get (v := .int (s0.1 (42 + v1.toNatClampNeg) 1)) K hw i_Sheet (sh_Sheet (P_Sheet_of g_5)) rfl 1 (by decide) w_192 rfl rfl rfl d_Main_armsBy_40 ?_
        refine lv_iconst (v := -1) hx hb d_Main_armsBy_43 (by decide) ?_
        refine lv_icmp_ne (tgt := 50) hx hb d_Main_armsBy_44 (by decide) (fun c_6 => ?_) (fun c_6 => ?_)
        · replace hF := ifT hF c_6
          refine lv_aload hx hb d_Main_armsBy_50 (lv_at hl 0 rfl) ?_
          refine r_get (v := .int (s0.1 (42 + v1.toNatClampNeg) 1)) K hw i_Sheet (sh_Sheet (P_Sheet_of g_5)) rfl 1 (by decide) w_192 rfl rfl rfl d_Main_armsBy_52 ?_
          refine lv_iload_n hx hb d_Main_armsBy_55 rfl (lv_at hl 3 rfl) ?_
          refine lv_icmp_eq (tgt := 62) hx hb d_Main_armsBy_56 (by decide) (fun c_7 => ?_) (fun c_7 => ?_)
          · replace hF := ifT hF c_7
            refine lv_iconst (v := 0) hx hb d_Main_armsBy_62 (by decide) ?_
            refine lv_istore (lv' := [(6, .int (0 : Int32)), (5, .ref (ad (42 + v1.toNatClampNeg))), (0, .ref (ad 0)), (1, .int v1), (2, .int v2), (3, .int v3), (4, .int v4)]) hx hb d_Main_armsBy_63 hl (by decide) rfl (fun ls hl => ?_)
            refine lv_iload_n hx hb d_Main_armsBy_65 rfl (lv_at hl 5 rfl) ?_
            refine lv_istore (lv' := [(7, .int v3), (6, .int (0 : Int32)), (5, .ref (ad (42 + v1.toNatClampNeg))), (0, .ref (ad 0)), (1, .int v1), (2, .int v2), (3, .int v3), (4, .int v4)]) hx hb d_Main_armsBy_66 hl (by decide) rfl (fun ls hl => ?_)
            refine lv_iconst (v := 0) hx hb d_Main_armsBy_68 (by decide) ?_
            refine lv_istore (lv' := [(8, .int (0 : Int32)), (7, .int v3), (6, .int (0 : Int32)), (5, .ref (ad (42 + v1.toNatClampNeg))), (0, .ref (ad 0)), (1, .int v1), (2, .int v2), (3, .int v3), (4, .int v4)]) hx hb d_Main_armsBy_69 hl (by decide) rfl (fun ls hl => ?_)
            exact q_Main_armsBy_71 K FU _ _ _ _ _ _ _ _ _ (P_Sheet_of g_5) hw (lv_sub hl [4, 8, 3, 2, 1, 0] rfl) hF
          · replace hF := ifF hF c_7
            refine lv_bipush (v := -13) hx hb d_Main_armsBy_59 (by decide) ?_
            obtain ⟨hF, hG⟩ := sE2 hF
            subst hF
            subst hG
            exact r_iret K hw d_Main_armsBy_61
        · replace hF := ifN hF c_6
          refine lv_bipush (v := -11) hx hb d_Main_armsBy_47 (by decide) ?_
          obtain ⟨hF, hG⟩ := sE2 hF
          subst hF
          subst hG
          exact r_iret K hw d_Main_armsBy_49
      · replace hF := ifN hF c_4
        refine lv_bipush (v := -2) hx hb d_Main_armsBy_27 (by decide) ?_
        obtain ⟨hF, hG⟩ := sE2 hF
        subst hF
        subst hG
        exact r_iret K hw d_Main_armsBy_29
end S_Main_armsBy
abbrev F_Main_armsBy := F_Main_armsBy_0
theorem c_Main_armsBy {l : Launch} {D : va_G} {cA : Nat → ClassId} {ad : Nat → Nat} {s0 τ : St} {r : Int32} {v1 : Int32} {v2 : Int32} {v3 : Int32} {v4 : Int32}  (hF : F_Main_armsBy s0 v1 v2 v3 v4 = (some (r, τ))) : MI l D cA ad shC y_Main_armsBy (wT y_Main_armsBy b_Main_armsBy 9 (some .int)) rm_Main_armsBy [.ref (ad 0), .int v1, .int v2, .int v3, .int v4] s0 r τ := fun sz => m_start (Qc := fun A => QcI D cA ad shC A r τ) (by decide +kernel) w_966 (Nat.le_of_ble_eq_true rfl) (fun p e s m below meth c ls K hl hw => q_Main_armsBy_0 K _ _ _ _ _ _ _ _  hw hl hF)

/-! Main.taken(II)I -/
abbrev b_Main_taken : ByteArray := prog_1_method_34_code
def y_Main_taken : MethodName := ⟨R_Main, "taken", "(II)I"⟩
theorem a_Main_taken : y_Main_taken.cls = R_Main ∧ y_Main_taken.cls ≠ "java/lang/invoke/MethodHandle" ∧ y_Main_taken.cls ≠ "java/lang/invoke/VarHandle" ∧ (parseMethodDescriptor y_Main_taken.desc).map (fun d => d.parameters.length) = some 2 := by decide +kernel
abbrev rm_Main_taken : Room := { frames := 2, cells := 0, slots := 0, locals := 45 }
theorem w_971 : Cond.methodLink R_Main 302 y_Arm_isOf ∈ TB := tb_in 971 (by decide +kernel) (by decide +kernel)
theorem w_970 : Cond.code y_Main_taken b_Main_taken 5 (some .int) ∈ TB := tb_in 970 (by decide +kernel) (by decide +kernel)
theorem d_Main_taken_0 : decode b_Main_taken 0 = .ok (.iload_n 2, 1) := by decide +kernel
theorem d_Main_taken_1 : decode b_Main_taken 1 = .ok (.iconst 0, 1) := by decide +kernel
theorem d_Main_taken_2 : decode b_Main_taken 2 = .ok (.bipush 6, 2) := by decide +kernel
theorem d_Main_taken_4 : decode b_Main_taken 4 = .ok (.invokestatic 108, 3) := by decide +kernel
theorem d_Main_taken_7 : decode b_Main_taken 7 = .ok (.ifCond .ne 6, 3) := by decide +kernel
theorem d_Main_taken_10 : decode b_Main_taken 10 = .ok (.bipush (-2), 2) := by decide +kernel
theorem d_Main_taken_12 : decode b_Main_taken 12 = .ok (.ireturn, 1) := by decide +kernel
theorem d_Main_taken_13 : decode b_Main_taken 13 = .ok (.iload_n 1, 1) := by decide +kernel
theorem d_Main_taken_14 : decode b_Main_taken 14 = .ok (.iconst 0, 1) := by decide +kernel
theorem d_Main_taken_15 : decode b_Main_taken 15 = .ok (.bipush 11, 2) := by decide +kernel
theorem d_Main_taken_17 : decode b_Main_taken 17 = .ok (.invokestatic 108, 3) := by decide +kernel
theorem d_Main_taken_20 : decode b_Main_taken 20 = .ok (.ifCond .ne 6, 3) := by decide +kernel
theorem d_Main_taken_23 : decode b_Main_taken 23 = .ok (.bipush (-12), 2) := by decide +kernel
theorem d_Main_taken_25 : decode b_Main_taken 25 = .ok (.ireturn, 1) := by decide +kernel
theorem d_Main_taken_26 : decode b_Main_taken 26 = .ok (.iload_n 1, 1) := by decide +kernel
theorem d_Main_taken_27 : decode b_Main_taken 27 = .ok (.bipush 6, 2) := by decide +kernel
theorem d_Main_taken_29 : decode b_Main_taken 29 = .ok (.irem, 1) := by decide +kernel
theorem d_Main_taken_30 : decode b_Main_taken 30 = .ok (.istore_n 3, 1) := by decide +kernel
theorem d_Main_taken_31 : decode b_Main_taken 31 = .ok (.iload_n 1, 1) := by decide +kernel
theorem d_Main_taken_32 : decode b_Main_taken 32 = .ok (.bipush 6, 2) := by decide +kernel
theorem d_Main_taken_34 : decode b_Main_taken 34 = .ok (.if_icmp .lt 7, 3) := by decide +kernel
theorem d_Main_taken_37 : decode b_Main_taken 37 = .ok (.iconst 1, 1) := by decide +kernel
theorem d_Main_taken_38 : decode b_Main_taken 38 = .ok (.goto 4, 3) := by decide +kernel
theorem d_Main_taken_41 : decode b_Main_taken 41 = .ok (.iconst 0, 1) := by decide +kernel
theorem d_Main_taken_42 : decode b_Main_taken 42 = .ok (.istore 4, 2) := by decide +kernel
theorem d_Main_taken_44 : decode b_Main_taken 44 = .ok (.aload_n 0, 1) := by decide +kernel
theorem d_Main_taken_45 : decode b_Main_taken 45 = .ok (.iload_n 3, 1) := by decide +kernel
theorem d_Main_taken_46 : decode b_Main_taken 46 = .ok (.invokevirtual 120, 3) := by decide +kernel
theorem d_Main_taken_49 : decode b_Main_taken 49 = .ok (.ifCond .eq 20, 3) := by decide +kernel
theorem d_Main_taken_52 : decode b_Main_taken 52 = .ok (.iload 4, 2) := by decide +kernel
theorem d_Main_taken_54 : decode b_Main_taken 54 = .ok (.ifCond .eq 18, 3) := by decide +kernel
theorem d_Main_taken_57 : decode b_Main_taken 57 = .ok (.aload_n 0, 1) := by decide +kernel
theorem d_Main_taken_58 : decode b_Main_taken 58 = .ok (.getfield 11, 3) := by decide +kernel
theorem d_Main_taken_61 : decode b_Main_taken 61 = .ok (.iload_n 3, 1) := by decide +kernel
theorem d_Main_taken_62 : decode b_Main_taken 62 = .ok (.aaload, 1) := by decide +kernel
theorem d_Main_taken_63 : decode b_Main_taken 63 = .ok (.getfield 152, 3) := by decide +kernel
theorem d_Main_taken_66 : decode b_Main_taken 66 = .ok (.ifCond .ne 6, 3) := by decide +kernel
theorem d_Main_taken_69 : decode b_Main_taken 69 = .ok (.bipush (-11), 2) := by decide +kernel
theorem d_Main_taken_71 : decode b_Main_taken 71 = .ok (.ireturn, 1) := by decide +kernel
theorem d_Main_taken_72 : decode b_Main_taken 72 = .ok (.iload 4, 2) := by decide +kernel
theorem d_Main_taken_74 : decode b_Main_taken 74 = .ok (.ifCond .eq 24, 3) := by decide +kernel
theorem d_Main_taken_77 : decode b_Main_taken 77 = .ok (.iload_n 2, 1) := by decide +kernel
theorem d_Main_taken_78 : decode b_Main_taken 78 = .ok (.bipush 6, 2) := by decide +kernel
theorem d_Main_taken_80 : decode b_Main_taken 80 = .ok (.if_icmp .ne 15, 3) := by decide +kernel
theorem d_Main_taken_83 : decode b_Main_taken 83 = .ok (.aload_n 0, 1) := by decide +kernel
theorem d_Main_taken_84 : decode b_Main_taken 84 = .ok (.getfield 11, 3) := by decide +kernel
theorem d_Main_taken_87 : decode b_Main_taken 87 = .ok (.iload_n 3, 1) := by decide +kernel
theorem d_Main_taken_88 : decode b_Main_taken 88 = .ok (.aaload, 1) := by decide +kernel
theorem d_Main_taken_89 : decode b_Main_taken 89 = .ok (.getfield 152, 3) := by decide +kernel
theorem d_Main_taken_92 : decode b_Main_taken 92 = .ok (.goto 5, 3) := by decide +kernel
theorem d_Main_taken_95 : decode b_Main_taken 95 = .ok (.bipush (-13), 2) := by decide +kernel
theorem d_Main_taken_97 : decode b_Main_taken 97 = .ok (.ireturn, 1) := by decide +kernel
theorem d_Main_taken_98 : decode b_Main_taken 98 = .ok (.iload_n 2, 1) := by decide +kernel
theorem d_Main_taken_99 : decode b_Main_taken 99 = .ok (.bipush 6, 2) := by decide +kernel
theorem d_Main_taken_101 : decode b_Main_taken 101 = .ok (.if_icmp .eq 20, 3) := by decide +kernel
theorem d_Main_taken_104 : decode b_Main_taken 104 = .ok (.aload_n 0, 1) := by decide +kernel
theorem d_Main_taken_105 : decode b_Main_taken 105 = .ok (.getfield 11, 3) := by decide +kernel
theorem d_Main_taken_108 : decode b_Main_taken 108 = .ok (.iload_n 3, 1) := by decide +kernel
theorem d_Main_taken_109 : decode b_Main_taken 109 = .ok (.aaload, 1) := by decide +kernel
theorem d_Main_taken_110 : decode b_Main_taken 110 = .ok (.iload_n 2, 1) := by decide +kernel
theorem d_Main_taken_111 : decode b_Main_taken 111 = .ok (.invokevirtual 302, 3) := by decide +kernel
theorem d_Main_taken_114 : decode b_Main_taken 114 = .ok (.ifCond .eq 7, 3) := by decide +kernel
theorem d_Main_taken_117 : decode b_Main_taken 117 = .ok (.iload_n 3, 1) := by decide +kernel
theorem d_Main_taken_118 : decode b_Main_taken 118 = .ok (.goto 5, 3) := by decide +kernel
theorem d_Main_taken_121 : decode b_Main_taken 121 = .ok (.bipush (-13), 2) := by decide +kernel
theorem d_Main_taken_123 : decode b_Main_taken 123 = .ok (.ireturn, 1) := by decide +kernel
section S_Main_taken
variable {p : Program} {l : Launch} {e : Env} {s : State} {m : MethodId} {args : Array Value} {below : List Frame} {meth : Method} {c : Code} {D : va_G} {cA : Nat → ClassId} {ad : Nat → Nat} {A : Nat → Prop} {r : Int32} {τ : St}
def F_Main_taken_72 (s0 : St) (v2 : Int32) (v3 : Int32) (v4 : Int32) : Option Int32 := (if v4 = 0 then (if v2 = (6 : Int32) then (some (-13 : Int32)) else (if inB v3 6 = true then (ob1 (F_Arm_isOf s0 (24 + v3.toNatClampNeg) v2) (fun r_10 => (if r_10 = 0 then (some (-13 : Int32)) else (some v3)))) else none)) else (if ¬ v2 = (6 : Int32) then (some (-13 : Int32)) else (if inB v3 6 = true then (some (s0.1 (24 + v3.toNatClampNeg) 4)) else none)))
set_option maxHeartbeats 4000000 in
set_option maxRecDepth 100000 in
theorem q_Main_taken_72 (s0 : St) (K : Fx p s m args meth c b_Main_taken 5 R_Main (some .int))  : ∀ (H : Heap) (locs : List Loc) (ls : Array Slot) (v2 : Int32) (v3 : Int32) (v4 : Int32), Wh D cA ad shC A s s0 H locs → lv_has ls 5 [(0, .ref (ad 0)), (2, .int v2), (3, .int v3), (4, .int v4)] → F_Main_taken_72 s0 v2 v3 v4 = (some r) → W p l e rm_Main_taken s m args below meth c H locs 0 0 (MQ below (QcI D cA ad shC A r s0) args s 0 0 A) (F0 m 72 ls []) := by
  have hx := K.1.1; have hb := K.1.2.1
  intro H locs ls v2 v3 v4 hw hl hF
  unfold F_Main_taken_72 at hF
  refine lv_iload hx hb d_Main_taken_72 (lv_at hl 3 rfl) ?_
  refine lv_if_eq (tgt := 98) hx hb d_Main_taken_74 (by decide) (fun c_7 => ?_) (fun c_7 => ?_)
  · replace hF := ifT hF c_7
    refine lv_iload_n hx hb d_Main_taken_98 rfl (lv_at hl 1 rfl) ?_
    refine lv_bipush (v := 6) hx hb d_Main_taken_99 (by decide) ?_
    refine lv_icmp_eq (tgt := 121) hx hb d_Main_taken_101 (by decide) (fun c_8 => ?_) (fun c_8 => ?_)
    · replace hF := ifT hF c_8
      refine lv_bipush (v := -13) hx hb d_Main_taken_121 (by decide) ?_
      replace hF := sE1 hF
      subst hF
      exact r_iret K hw d_Main_taken_123
    · replace hF := ifF hF c_8
      refine lv_aload_n hx hb d_Main_taken_104 rfl (lv_at hl 0 rfl) ?_
      refine r_get (v := .ref (ad 1)) K hw i_Main sh_Main rfl 0 (by decide) w_598 rfl rfl rfl d_Main_taken_105 ?_
      refine lv_iload_n hx hb d_Main_taken_108 rfl (lv_at hl 2 rfl) ?_
      obtain ⟨g_9, hF⟩ := ifG hF
      refine r_aald (k := v3.toNatClampNeg) K hw (show shC[1]? = some (.inr (.inr (1, 24, 6))) from rfl) (rfl : (TYS cA)[1]? = some (cA 1, _)) rfl (inB_vp g_9) d_Main_taken_109 ?_
      refine lv_iload_n hx hb d_Main_taken_110 rfl (lv_at hl 1 rfl) ?_
      obtain ⟨r_10, h_r_10, hF⟩ := ob1E hF
      refine r_callVI (As := [.int v2]) (rest := []) K hw hl.1 (c_Arm_isOf (l := l) (D := D) (cA := cA) (ad := ad) (s0 := s0) (P_Arm_of g_9) h_r_10) (sh_Arm (P_Arm_of g_9)) rfl (tb_gV w_971 w_698 w_699 w_66 w_700) a_Arm_isOf ⟨rfl, rfl, Nat.le_of_ble_eq_true rfl, Nat.le_of_ble_eq_true rfl⟩ rfl rfl (Nat.le_of_ble_eq_true rfl) d_Main_taken_111 (fun H locs hw => ?_)
      refine lv_if_eq (tgt := 121) hx hb d_Main_taken_114 (by decide) (fun c_11 => ?_) (fun c_11 => ?_)
      · replace hF := ifT hF c_11
        refine lv_bipush (v := -13) hx hb d_Main_taken_121 (by decide) ?_
        replace hF := sE1 hF
        subst hF
        exact r_iret K hw d_Main_taken_123
      · replace hF := ifF hF c_11
        refine lv_iload_n hx hb d_Main_taken_117 rfl (lv_at hl 2 rfl) ?_
        refine lv_goto (tgt := 123) hx hb d_Main_taken_118 (by decide) ?_
        replace hF := sE1 hF
        subst hF
        exact r_iret K hw d_Main_taken_123
  · replace hF := ifF hF c_7
    refine lv_iload_n hx hb d_Main_taken_77 rfl (lv_at hl 1 rfl) ?_
    refine lv_bipush (v := 6) hx hb d_Main_taken_78 (by decide) ?_
    refine lv_icmp_ne (tgt := 95) hx hb d_Main_taken_80 (by decide) (fun c_12 => ?_) (fun c_12 => ?_)
    · replace hF := ifT hF c_12
      refine lv_bipush (v := -13) hx hb d_Main_taken_95 (by decide) ?_
      replace hF := sE1 hF
      subst hF
      exact r_iret K hw d_Main_taken_97
    · replace hF := ifN hF c_12
      refine lv_aload_n hx hb d_Main_taken_83 rfl (lv_at hl 0 rfl) ?_
      refine r_get (v := .ref (ad 1)) K hw i_Main sh_Main rfl 0 (by decide) w_598 rfl rfl rfl d_Main_taken_84 ?_
      refine lv_iload_n hx hb d_Main_taken_87 rfl (lv_at hl 2 rfl) ?_
      obtain ⟨g_13, hF⟩ := ifG hF
      refine r_aald (k := v3.toNatClampNeg) K hw (show shC[1]? = some (.inr (.inr (1, 24, 6))) from rfl) (rfl : (TYS cA)[1]? = some (cA 1, _)) rfl (inB_vp g_13) d_Main_taken_88 ?_
      refine r_get (v := .int (s0.1 (24 + v3.toNatClampNeg) 4)) K hw i_Arm (sh_Arm (P_Arm_of g_13)) rfl 4 (by decide) w_155 rfl rfl rfl d_Main_taken_89 ?_
      refine lv_goto (tgt := 97) hx hb d_Main_taken_92 (by decide) ?_
      replace hF := sE1 hF
      subst hF
      exact r_iret K hw d_Main_taken_97
def F_Main_taken_42 (s0 : St) (v2 : Int32) (v3 : Int32) (t0 : Int32) : Option Int32 := (ob1 (F_Main_isArm s0 v3) (fun r_4 => (if r_4 = 0 then (some (-11 : Int32)) else (if t0 = 0 then (F_Main_taken_72 s0 v2 v3 t0) else (if inB v3 6 = true then (if ¬ (s0.1 (24 + v3.toNatClampNeg) 4) = 0 then (F_Main_taken_72 s0 v2 v3 t0) else (some (-11 : Int32))) else none)))))
set_option maxHeartbeats 4000000 in
set_option maxRecDepth 100000 in
theorem q_Main_taken_42 (s0 : St) (K : Fx p s m args meth c b_Main_taken 5 R_Main (some .int))  : ∀ (H : Heap) (locs : List Loc) (ls : Array Slot) (v2 : Int32) (v3 : Int32) (t0 : Int32), Wh D cA ad shC A s s0 H locs → lv_has ls 5 [(0, .ref (ad 0)), (2, .int v2), (3, .int v3)] → F_Main_taken_42 s0 v2 v3 t0 = (some r) → W p l e rm_Main_taken s m args below meth c H locs 0 0 (MQ below (QcI D cA ad shC A r s0) args s 0 0 A) (F0 m 42 ls [.int t0]) := by
  have hx := K.1.1; have hb := K.1.2.1
  intro H locs ls v2 v3 t0 hw hl hF
  unfold F_Main_taken_42 at hF
  refine lv_istore (lv' := [(4, .int t0), (0, .ref (ad 0)), (2, .int v2), (3, .int v3)]) hx hb d_Main_taken_42 hl (by decide) rfl (fun ls hl => ?_)
  refine lv_aload_n hx hb d_Main_taken_44 rfl (lv_at hl 1 rfl) ?_
  refine lv_iload_n hx hb d_Main_taken_45 rfl (lv_at hl 3 rfl) ?_
  obtain ⟨r_4, h_r_4, hF⟩ := ob1E hF
  refine r_callVI (As := [.int v3]) (rest := []) K hw hl.1 (c_Main_isArm (l := l) (D := D) (cA := cA) (ad := ad) (s0 := s0)  h_r_4) sh_Main rfl (tb_gV w_656 w_658 w_13 w_63 w_659) a_Main_isArm ⟨rfl, rfl, Nat.le_of_ble_eq_true rfl, Nat.le_of_ble_eq_true rfl⟩ rfl rfl (Nat.le_of_ble_eq_true rfl) d_Main_taken_46 (fun H locs hw => ?_)
  refine lv_if_eq (tgt := 69) hx hb d_Main_taken_49 (by decide) (fun c_5 => ?_) (fun c_5 => ?_)
  · replace hF := ifT hF c_5
    refine lv_bipush (v := -11) hx hb d_Main_taken_69 (by decide) ?_
    replace hF := sE1 hF
    subst hF
    exact r_iret K hw d_Main_taken_71
  · replace hF := ifF hF c_5
    refine lv_iload hx hb d_Main_taken_52 (lv_at hl 0 rfl) ?_
    refine lv_if_eq (tgt := 72) hx hb d_Main_taken_54 (by decide) (fun c_6 => ?_) (fun c_6 => ?_)
    · replace hF := ifT hF c_6
      exact q_Main_taken_72 s0 K _ _ _ _ _ _  hw (lv_sub hl [1, 2, 3, 0] rfl) hF
    · replace hF := ifF hF c_6
      refine lv_aload_n hx hb d_Main_taken_57 rfl (lv_at hl 1 rfl) ?_
      refine r_get (v := .ref (ad 1)) K hw i_Main sh_Main rfl 0 (by decide) w_598 rfl rfl rfl d_Main_taken_58 ?_
      refine lv_iload_n hx hb d_Main_taken_61 rfl (lv_at hl 3 rfl) ?_
      obtain ⟨g_14, hF⟩ := ifG hF
      refine r_aald (k := v3.toNatClampNeg) K hw (show shC[1]? = some (.inr (.inr (1, 24, 6))) from rfl) (rfl : (TYS cA)[1]? = some (cA 1, _)) rfl (inB_vp g_14) d_Main_taken_62 ?_
      refine r_get (v := .int (s0.1 (24 + v3.toNatClampNeg) 4)) K hw i_Arm (sh_Arm (P_Arm_of g_14)) rfl 4 (by decide) w_155 rfl rfl rfl d_Main_taken_63 ?_
      refine lv_if_ne (tgt := 72) hx hb d_Main_taken_66 (by decide) (fun c_15 => ?_) (fun c_15 => ?_)
      · replace hF := ifT hF c_15
        exact q_Main_taken_72 s0 K _ _ _ _ _ _  hw (lv_sub hl [1, 2, 3, 0] rfl) hF
      · replace hF := ifN hF c_15
        refine lv_bipush (v := -11) hx hb d_Main_taken_69 (by decide) ?_
        replace hF := sE1 hF
        subst hF
        exact r_iret K hw d_Main_taken_71
def F_Main_taken_0 (s0 : St) (v1 : Int32) (v2 : Int32) : Option Int32 := (if ¬ (F_Main_isWithin v2 (0 : Int32) (6 : Int32)) = 0 then (if ¬ (F_Main_isWithin v1 (0 : Int32) (11 : Int32)) = 0 then (if v1 < (6 : Int32) then (F_Main_taken_42 s0 v2 (jrem v1 (6 : Int32)) (0 : Int32)) else (F_Main_taken_42 s0 v2 (jrem v1 (6 : Int32)) (1 : Int32))) else (some (-12 : Int32))) else (some (-2 : Int32)))
set_option maxHeartbeats 4000000 in
set_option maxRecDepth 100000 in
theorem q_Main_taken_0 (s0 : St) (K : Fx p s m args meth c b_Main_taken 5 R_Main (some .int))  : ∀ (H : Heap) (locs : List Loc) (ls : Array Slot) (v1 : Int32) (v2 : Int32), Wh D cA ad shC A s s0 H locs → lv_has ls 5 [(0, .ref (ad 0)), (1, .int v1), (2, .int v2)] → F_Main_taken_0 s0 v1 v2 = (some r) → W p l e rm_Main_taken s m args below meth c H locs 0 0 (MQ below (QcI D cA ad shC A r s0) args s 0 0 A) (F0 m 0 ls []) := by
  have hx := K.1.1; have hb := K.1.2.1
  intro H locs ls v1 v2 hw hl hF
  unfold F_Main_taken_0 at hF
  refine lv_iload_n hx hb d_Main_taken_0 rfl (lv_at hl 2 rfl) ?_
  refine lv_iconst (v := 0) hx hb d_Main_taken_1 (by decide) ?_
  refine lv_bipush (v := 6) hx hb d_Main_taken_2 (by decide) ?_
  refine r_callSI (As := [.int v2, .int (0 : Int32), .int (6 : Int32)]) (rest := []) K hw hl.1 (c_Main_isWithin (l := l) (D := D) (cA := cA) (ad := ad) (s0 := s0)  rfl) (tb_gS w_640 w_347 w_63 w_348) a_Main_isWithin ⟨rfl, rfl, Nat.le_of_ble_eq_true rfl, Nat.le_of_ble_eq_true rfl⟩ rfl rfl (Nat.le_of_ble_eq_true rfl) d_Main_taken_4 (fun H locs hw => ?_)
  refine lv_if_ne (tgt := 13) hx hb d_Main_taken_7 (by decide) (fun c_1 => ?_) (fun c_1 => ?_)
  · replace hF := ifT hF c_1
    refine lv_iload_n hx hb d_Main_taken_13 rfl (lv_at hl 1 rfl) ?_
    refine lv_iconst (v := 0) hx hb d_Main_taken_14 (by decide) ?_
    refine lv_bipush (v := 11) hx hb d_Main_taken_15 (by decide) ?_
    refine r_callSI (As := [.int v1, .int (0 : Int32), .int (11 : Int32)]) (rest := []) K hw hl.1 (c_Main_isWithin (l := l) (D := D) (cA := cA) (ad := ad) (s0 := s0)  rfl) (tb_gS w_640 w_347 w_63 w_348) a_Main_isWithin ⟨rfl, rfl, Nat.le_of_ble_eq_true rfl, Nat.le_of_ble_eq_true rfl⟩ rfl rfl (Nat.le_of_ble_eq_true rfl) d_Main_taken_17 (fun H locs hw => ?_)
    refine lv_if_ne (tgt := 26) hx hb d_Main_taken_20 (by decide) (fun c_2 => ?_) (fun c_2 => ?_)
    · replace hF := ifT hF c_2
      refine lv_iload_n hx hb d_Main_taken_26 rfl (lv_at hl 1 rfl) ?_
      refine lv_bipush (v := 6) hx hb d_Main_taken_27 (by decide) ?_
      refine lv_irem hx hb d_Main_taken_29 (by decide) ?_
      refine lv_istore_n (lv' := [(3, .int (jrem v1 (6 : Int32))), (0, .ref (ad 0)), (1, .int v1), (2, .int v2)]) hx hb d_Main_taken_30 rfl hl (by decide) rfl (fun ls hl => ?_)
      refine lv_iload_n hx hb d_Main_taken_31 rfl (lv_at hl 2 rfl) ?_
      refine lv_bipush (v := 6) hx hb d_Main_taken_32 (by decide) ?_
      refine lv_icmp_lt (tgt := 41) hx hb d_Main_taken_34 (by decide) (fun c_3 => ?_) (fun c_3 => ?_)
      · replace hF := ifT hF c_3
        refine lv_iconst (v := 0) hx hb d_Main_taken_41 (by decide) ?_
        exact q_Main_taken_42 s0 K _ _ _ _ _ _  hw (lv_sub hl [1, 3, 0] rfl) hF
      · replace hF := ifF hF c_3
        refine lv_iconst (v := 1) hx hb d_Main_taken_37 (by decide) ?_
        refine lv_goto (tgt := 42) hx hb d_Main_taken_38 (by decide) ?_
        exact q_Main_taken_42 s0 K _ _ _ _ _ _  hw (lv_sub hl [1, 3, 0] rfl) hF
    · replace hF := ifN hF c_2
      refine lv_bipush (v := -12) hx hb d_Main_taken_23 (by decide) ?_
      replace hF := sE1 hF
      subst hF
      exact r_iret K hw d_Main_taken_25
  · replace hF := ifN hF c_1
    refine lv_bipush (v := -2) hx hb d_Main_taken_10 (by decide) ?_
    replace hF := sE1 hF
    subst hF
    exact r_iret K hw d_Main_taken_12
end S_Main_taken
abbrev F_Main_taken := F_Main_taken_0
theorem c_Main_taken {l : Launch} {D : va_G} {cA : Nat → ClassId} {ad : Nat → Nat} {s0 : St} {r : Int32} {v1 : Int32} {v2 : Int32}  (hF : F_Main_taken s0 v1 v2 = (some r)) : MI l D cA ad shC y_Main_taken (wT y_Main_taken b_Main_taken 5 (some .int)) rm_Main_taken [.ref (ad 0), .int v1, .int v2] s0 r s0 := fun sz => m_start (Qc := fun A => QcI D cA ad shC A r s0) (by decide +kernel) w_970 (Nat.le_of_ble_eq_true rfl) (fun p e s m below meth c ls K hl hw => q_Main_taken_0 s0 K _ _ _ _ _  hw hl hF)
