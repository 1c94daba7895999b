/-! Model.force(I)I -/
abbrev b_Model_force : ByteArray := prog_13_method_24_code
def y_Model_force : MethodName := ⟨R_Model, "force", "(I)I"⟩
theorem a_Model_force : y_Model_force.cls = R_Model ∧ y_Model_force.cls ≠ "java/lang/invoke/MethodHandle" ∧ y_Model_force.cls ≠ "java/lang/invoke/VarHandle" ∧ (parseMethodDescriptor y_Model_force.desc).map (fun d => d.parameters.length) = some 1 := by decide +kernel
abbrev rm_Model_force : Room := { frames := 1, cells := 0, slots := 0, locals := 22 }
theorem w_1176 : Cond.code y_Model_force b_Model_force 3 (some .int) ∈ TB := tb_in 1176 (by decide +kernel) (by decide +kernel)
theorem d_Model_force_0 : decode b_Model_force 0 = .ok (.iload_n 1, 1) := by decide +kernel
theorem d_Model_force_1 : decode b_Model_force 1 = .ok (.iconst 0, 1) := by decide +kernel
theorem d_Model_force_2 : decode b_Model_force 2 = .ok (.aload_n 0, 1) := by decide +kernel
theorem d_Model_force_3 : decode b_Model_force 3 = .ok (.getfield 90, 3) := by decide +kernel
theorem d_Model_force_6 : decode b_Model_force 6 = .ok (.iconst 1, 1) := by decide +kernel
theorem d_Model_force_7 : decode b_Model_force 7 = .ok (.isub, 1) := by decide +kernel
theorem d_Model_force_8 : decode b_Model_force 8 = .ok (.invokestatic 78, 3) := by decide +kernel
theorem d_Model_force_11 : decode b_Model_force 11 = .ok (.ifCond .ne 6, 3) := by decide +kernel
theorem d_Model_force_14 : decode b_Model_force 14 = .ok (.bipush (-2), 2) := by decide +kernel
theorem d_Model_force_16 : decode b_Model_force 16 = .ok (.ireturn, 1) := by decide +kernel
theorem d_Model_force_17 : decode b_Model_force 17 = .ok (.aload_n 0, 1) := by decide +kernel
theorem d_Model_force_18 : decode b_Model_force 18 = .ok (.getfield 93, 3) := by decide +kernel
theorem d_Model_force_21 : decode b_Model_force 21 = .ok (.istore_n 2, 1) := by decide +kernel
theorem d_Model_force_22 : decode b_Model_force 22 = .ok (.aload_n 0, 1) := by decide +kernel
theorem d_Model_force_23 : decode b_Model_force 23 = .ok (.iload_n 1, 1) := by decide +kernel
theorem d_Model_force_24 : decode b_Model_force 24 = .ok (.putfield 93, 3) := by decide +kernel
theorem d_Model_force_27 : decode b_Model_force 27 = .ok (.iload_n 2, 1) := by decide +kernel
theorem d_Model_force_28 : decode b_Model_force 28 = .ok (.ireturn, 1) := by decide +kernel
section S_Model_force
variable {p : Program} {l : Launch} {e : Env} {s : State} {m : MethodId} {args : Array Value} {below : List Frame} {meth : Method} {c : Code} {D : va_G} {cA : Nat → ClassId} {ad : Nat → Nat} {nC : Nat} {A : Nat → Prop} {r : Int32} {τ : St}
noncomputable def F_Model_force_0 (s0 : St) (v1 : Int32) : Option (Int32 × St) := (if ¬ (F_Model_in v1 (0 : Int32) ((s0.1 0 10) - (1 : Int32))) = 0 then (lt (up1 s0 0 11 v1) (fun s_2 => (some ((s0.1 0 11), s_2)))) else (some ((-2 : Int32), s0)))
set_option maxHeartbeats 4000000 in
set_option maxRecDepth 100000 in
theorem q_Model_force_0 (K : Fx p s m args meth c b_Model_force 3 R_Model (some .int))  : ∀ (H : Heap) (locs : List Loc) (ls : Array Slot) (s0 : St) (v1 : Int32), Wh D cA ad shM A s s0 H locs → lv_has ls 3 [(0, .ref (ad 0)), (1, .int v1)] → F_Model_force_0 s0 v1 = (some (r, τ)) → W p l e rm_Model_force s m args below meth c H locs 0 0 (MQ below (QcI D cA ad shM A r τ) args s 0 0 A) (F0 m 0 ls []) := by
  have hx := K.1.1; have hb := K.1.2.1
  intro H locs ls s0 v1 hw hl hF
  unfold F_Model_force_0 at hF
  refine lv_iload_n hx hb d_Model_force_0 rfl (lv_at hl 1 rfl) ?_
  refine lv_iconst (v := 0) hx hb d_Model_force_1 (by decide) ?_
  refine lv_aload_n hx hb d_Model_force_2 rfl (lv_at hl 0 rfl) ?_
  refine r_get (v := .int (s0.1 0 10)) K hw i_Model sh_Model rfl 10 (by decide) w_1035 rfl rfl rfl d_Model_force_3 ?_
  refine lv_iconst (v := 1) hx hb d_Model_force_6 (by decide) ?_
  refine lv_isub hx hb d_Model_force_7 ?_
  refine r_callSI (As := [.int v1, .int (0 : Int32), .int ((s0.1 0 10) - (1 : Int32))]) (rest := []) K hw hl.1 (c_Model_in (l := l) (D := D) (cA := cA) (ad := ad) (s0 := s0)   rfl) (tb_gS w_986 w_987 w_80 w_988) a_Model_in ⟨rfl, rfl, Nat.le_of_ble_eq_true rfl, Nat.le_of_ble_eq_true rfl⟩ rfl rfl (Nat.le_of_ble_eq_true rfl) d_Model_force_8 (fun H locs hw => ?_)
  refine lv_if_ne (tgt := 17) hx hb d_Model_force_11 (by decide) (fun c_1 => ?_) (fun c_1 => ?_)
  · replace hF := ifT hF c_1
    refine lv_aload_n hx hb d_Model_force_17 rfl (lv_at hl 0 rfl) ?_
    refine r_get (v := .int (s0.1 0 11)) K hw i_Model sh_Model rfl 11 (by decide) w_1036 rfl rfl rfl d_Model_force_18 ?_
    refine lv_istore_n (lv' := [(2, .int (s0.1 0 11)), (0, .ref (ad 0)), (1, .int v1)]) hx hb d_Model_force_21 rfl hl (by decide) rfl (fun ls hl => ?_)
    refine lv_aload_n hx hb d_Model_force_22 rfl (lv_at hl 1 rfl) ?_
    refine lv_iload_n hx hb d_Model_force_23 rfl (lv_at hl 2 rfl) ?_
    refine r_putI K hw i_Model t_Model t_Model_ok n_Model sh_Model rfl 11 (by decide) w_1036 rfl rfl rfl rfl rfl d_Model_force_24 (fun s_2 f_s_2 H locs hw => ?_)
    replace hF := ltN hF f_s_2
    refine lv_iload_n hx hb d_Model_force_27 rfl (lv_at hl 0 rfl) ?_
    obtain ⟨hF, hG⟩ := sE2 hF
    subst hF
    subst hG
    exact r_iret K hw d_Model_force_28
  · replace hF := ifN hF c_1
    refine lv_bipush (v := -2) hx hb d_Model_force_14 (by decide) ?_
    obtain ⟨hF, hG⟩ := sE2 hF
    subst hF
    subst hG
    exact r_iret K hw d_Model_force_16
end S_Model_force
noncomputable abbrev F_Model_force := F_Model_force_0
theorem c_Model_force {l : Launch} {D : va_G} {cA : Nat → ClassId} {ad : Nat → Nat} {s0 τ : St} {r : Int32} {v1 : Int32}  (hF : F_Model_force s0 v1 = (some (r, τ))) : MI l D cA ad shM y_Model_force (wT y_Model_force b_Model_force 3 (some .int)) rm_Model_force [.ref (ad 0), .int v1] s0 r τ := fun sz => m_start (Qc := fun A => QcI D cA ad shM A r τ) (by decide +kernel) w_1176 (Nat.le_of_ble_eq_true rfl) (fun p e s m below meth c ls K hl hw => q_Model_force_0 K _ _ _ _ _  hw hl hF)

/-! Model.asksOf(IIIIII)I -/
abbrev b_Model_asksOf : ByteArray := prog_13_method_25_code
def y_Model_asksOf : MethodName := ⟨R_Model, "asksOf", "(IIIIII)I"⟩
theorem a_Model_asksOf : y_Model_asksOf.cls = R_Model ∧ y_Model_asksOf.cls ≠ "java/lang/invoke/MethodHandle" ∧ y_Model_asksOf.cls ≠ "java/lang/invoke/VarHandle" ∧ (parseMethodDescriptor y_Model_asksOf.desc).map (fun d => d.parameters.length) = some 6 := by decide +kernel
abbrev rm_Model_asksOf : Room := { frames := 2, cells := 0, slots := 0, locals := 46 }
theorem w_1027 : Cond.fieldLink R_Model 13 R_Model "toldOf" "[I" ∈ TB := tb_in 1027 (by decide +kernel) (by decide +kernel)
theorem w_1028 : Cond.fieldLink R_Model 16 R_Model "moreOf" "[I" ∈ TB := tb_in 1028 (by decide +kernel) (by decide +kernel)
theorem w_1189 : Cond.methodLink R_Model 159 y_Model_says ∈ TB := tb_in 1189 (by decide +kernel) (by decide +kernel)
theorem w_1191 : Cond.instanceMethod y_Model_says ∈ TB := tb_in 1191 (by decide +kernel) (by decide +kernel)
theorem w_41 : Cond.selects R_Model y_Model_says y_Model_says ∈ TB := tb_in 41 (by decide +kernel) (by decide +kernel)
theorem w_1196 : Cond.methodLink R_Model 162 y_Model_within ∈ TB := tb_in 1196 (by decide +kernel) (by decide +kernel)
theorem w_1197 : Cond.static y_Model_within ∈ TB := tb_in 1197 (by decide +kernel) (by decide +kernel)
theorem w_1188 : Cond.code y_Model_asksOf b_Model_asksOf 7 (some .int) ∈ TB := tb_in 1188 (by decide +kernel) (by decide +kernel)
theorem d_Model_asksOf_0 : decode b_Model_asksOf 0 = .ok (.aload_n 0, 1) := by decide +kernel
theorem d_Model_asksOf_1 : decode b_Model_asksOf 1 = .ok (.getfield 61, 3) := by decide +kernel
theorem d_Model_asksOf_4 : decode b_Model_asksOf 4 = .ok (.iconst 0, 1) := by decide +kernel
theorem d_Model_asksOf_5 : decode b_Model_asksOf 5 = .ok (.aload_n 0, 1) := by decide +kernel
theorem d_Model_asksOf_6 : decode b_Model_asksOf 6 = .ok (.getfield 13, 3) := by decide +kernel
theorem d_Model_asksOf_9 : decode b_Model_asksOf 9 = .ok (.iload_n 2, 1) := by decide +kernel
theorem d_Model_asksOf_10 : decode b_Model_asksOf 10 = .ok (.iaload, 1) := by decide +kernel
theorem d_Model_asksOf_11 : decode b_Model_asksOf 11 = .ok (.iastore, 1) := by decide +kernel
theorem d_Model_asksOf_12 : decode b_Model_asksOf 12 = .ok (.aload_n 0, 1) := by decide +kernel
theorem d_Model_asksOf_13 : decode b_Model_asksOf 13 = .ok (.getfield 61, 3) := by decide +kernel
theorem d_Model_asksOf_16 : decode b_Model_asksOf 16 = .ok (.iconst 1, 1) := by decide +kernel
theorem d_Model_asksOf_17 : decode b_Model_asksOf 17 = .ok (.aload_n 0, 1) := by decide +kernel
theorem d_Model_asksOf_18 : decode b_Model_asksOf 18 = .ok (.getfield 16, 3) := by decide +kernel
theorem d_Model_asksOf_21 : decode b_Model_asksOf 21 = .ok (.iload_n 2, 1) := by decide +kernel
theorem d_Model_asksOf_22 : decode b_Model_asksOf 22 = .ok (.iaload, 1) := by decide +kernel
theorem d_Model_asksOf_23 : decode b_Model_asksOf 23 = .ok (.iastore, 1) := by decide +kernel
theorem d_Model_asksOf_24 : decode b_Model_asksOf 24 = .ok (.aload_n 0, 1) := by decide +kernel
theorem d_Model_asksOf_25 : decode b_Model_asksOf 25 = .ok (.getfield 61, 3) := by decide +kernel
theorem d_Model_asksOf_28 : decode b_Model_asksOf 28 = .ok (.iconst 2, 1) := by decide +kernel
theorem d_Model_asksOf_29 : decode b_Model_asksOf 29 = .ok (.iload_n 3, 1) := by decide +kernel
theorem d_Model_asksOf_30 : decode b_Model_asksOf 30 = .ok (.iastore, 1) := by decide +kernel
theorem d_Model_asksOf_31 : decode b_Model_asksOf 31 = .ok (.aload_n 0, 1) := by decide +kernel
theorem d_Model_asksOf_32 : decode b_Model_asksOf 32 = .ok (.getfield 61, 3) := by decide +kernel
theorem d_Model_asksOf_35 : decode b_Model_asksOf 35 = .ok (.iconst 3, 1) := by decide +kernel
theorem d_Model_asksOf_36 : decode b_Model_asksOf 36 = .ok (.iload 4, 2) := by decide +kernel
theorem d_Model_asksOf_38 : decode b_Model_asksOf 38 = .ok (.iastore, 1) := by decide +kernel
theorem d_Model_asksOf_39 : decode b_Model_asksOf 39 = .ok (.aload_n 0, 1) := by decide +kernel
theorem d_Model_asksOf_40 : decode b_Model_asksOf 40 = .ok (.getfield 61, 3) := by decide +kernel
theorem d_Model_asksOf_43 : decode b_Model_asksOf 43 = .ok (.iconst 4, 1) := by decide +kernel
theorem d_Model_asksOf_44 : decode b_Model_asksOf 44 = .ok (.iload 5, 2) := by decide +kernel
theorem d_Model_asksOf_46 : decode b_Model_asksOf 46 = .ok (.iastore, 1) := by decide +kernel
theorem d_Model_asksOf_47 : decode b_Model_asksOf 47 = .ok (.aload_n 0, 1) := by decide +kernel
theorem d_Model_asksOf_48 : decode b_Model_asksOf 48 = .ok (.getfield 61, 3) := by decide +kernel
theorem d_Model_asksOf_51 : decode b_Model_asksOf 51 = .ok (.iconst 5, 1) := by decide +kernel
theorem d_Model_asksOf_52 : decode b_Model_asksOf 52 = .ok (.iload 6, 2) := by decide +kernel
theorem d_Model_asksOf_54 : decode b_Model_asksOf 54 = .ok (.iastore, 1) := by decide +kernel
theorem d_Model_asksOf_55 : decode b_Model_asksOf 55 = .ok (.aload_n 0, 1) := by decide +kernel
theorem d_Model_asksOf_56 : decode b_Model_asksOf 56 = .ok (.iload_n 1, 1) := by decide +kernel
theorem d_Model_asksOf_57 : decode b_Model_asksOf 57 = .ok (.invokevirtual 159, 3) := by decide +kernel
theorem d_Model_asksOf_60 : decode b_Model_asksOf 60 = .ok (.iconst 0, 1) := by decide +kernel
theorem d_Model_asksOf_61 : decode b_Model_asksOf 61 = .ok (.iload_n 1, 1) := by decide +kernel
theorem d_Model_asksOf_62 : decode b_Model_asksOf 62 = .ok (.ifCond .ne 9, 3) := by decide +kernel
theorem d_Model_asksOf_65 : decode b_Model_asksOf 65 = .ok (.sipush 200, 3) := by decide +kernel
theorem d_Model_asksOf_68 : decode b_Model_asksOf 68 = .ok (.goto 15, 3) := by decide +kernel
theorem d_Model_asksOf_71 : decode b_Model_asksOf 71 = .ok (.iload_n 1, 1) := by decide +kernel
theorem d_Model_asksOf_72 : decode b_Model_asksOf 72 = .ok (.iconst 1, 1) := by decide +kernel
theorem d_Model_asksOf_73 : decode b_Model_asksOf 73 = .ok (.if_icmp .ne 8, 3) := by decide +kernel
theorem d_Model_asksOf_76 : decode b_Model_asksOf 76 = .ok (.bipush 9, 2) := by decide +kernel
theorem d_Model_asksOf_78 : decode b_Model_asksOf 78 = .ok (.goto 5, 3) := by decide +kernel
theorem d_Model_asksOf_81 : decode b_Model_asksOf 81 = .ok (.bipush 100, 2) := by decide +kernel
theorem d_Model_asksOf_83 : decode b_Model_asksOf 83 = .ok (.invokestatic 162, 3) := by decide +kernel
theorem d_Model_asksOf_86 : decode b_Model_asksOf 86 = .ok (.ireturn, 1) := by decide +kernel
section S_Model_asksOf
variable {p : Program} {l : Launch} {e : Env} {s : State} {m : MethodId} {args : Array Value} {below : List Frame} {meth : Method} {c : Code} {D : va_G} {cA : Nat → ClassId} {ad : Nat → Nat} {nC : Nat} {A : Nat → Prop} {r : Int32} {τ : St}
noncomputable def F_Model_asksOf_83 (s0 : St) (t0 : Int32) (t1 : Int32) (t2 : Int32) : Option (Int32 × St) := (some ((F_Model_within t0 t1 t2), s0))
set_option maxHeartbeats 4000000 in
set_option maxRecDepth 100000 in
theorem q_Model_asksOf_83 (K : Fx p s m args meth c b_Model_asksOf 7 R_Model (some .int))  : ∀ (H : Heap) (locs : List Loc) (ls : Array Slot) (s0 : St) (t0 : Int32) (t1 : Int32) (t2 : Int32), Wh D cA ad shM A s s0 H locs → lv_has ls 7 [] → F_Model_asksOf_83 s0 t0 t1 t2 = (some (r, τ)) → W p l e rm_Model_asksOf s m args below meth c H locs 0 0 (MQ below (QcI D cA ad shM A r τ) args s 0 0 A) (F0 m 83 ls [.int t2, .int t1, .int t0]) := by
  have hx := K.1.1; have hb := K.1.2.1
  intro H locs ls s0 t0 t1 t2 hw hl hF
  unfold F_Model_asksOf_83 at hF
  refine r_callSI (As := [.int t0, .int t1, .int t2]) (rest := []) K hw hl.1 (c_Model_within (l := l) (D := D) (cA := cA) (ad := ad) (s0 := s0)   rfl) (tb_gS w_1196 w_1197 w_80 w_1198) a_Model_within ⟨rfl, rfl, Nat.le_of_ble_eq_true rfl, Nat.le_of_ble_eq_true rfl⟩ rfl rfl (Nat.le_of_ble_eq_true rfl) d_Model_asksOf_83 (fun H locs hw => ?_)
  obtain ⟨hF, hG⟩ := sE2 hF
  subst hF
  subst hG
  exact r_iret K hw d_Model_asksOf_86
noncomputable def F_Model_asksOf_0 (s0 : St) (v1 : Int32) (v2 : Int32) (v3 : Int32) (v4 : Int32) (v5 : Int32) (v6 : Int32) : Option (Int32 × St) := (if inB v2 6 = true then (lt (up1 s0 18 0 (s0.1 2 v2.toNatClampNeg)) (fun s_2 => (if inB v2 6 = true then (lt (up1 s_2 18 1 (s_2.1 3 v2.toNatClampNeg)) (fun s_4 => (lt (up1 s_4 18 2 v3) (fun s_5 => (lt (up1 s_5 18 3 v4) (fun s_6 => (lt (up1 s_6 18 4 v5) (fun s_7 => (lt (up1 s_7 18 5 v6) (fun s_8 => (ob2 (F_Model_says s_8 v1) (fun r_9 s_10 => (if ¬ v1 = 0 then (if ¬ v1 = (1 : Int32) then (F_Model_asksOf_83 s_10 r_9 (0 : Int32) (100 : Int32)) else (F_Model_asksOf_83 s_10 r_9 (0 : Int32) (9 : Int32))) else (F_Model_asksOf_83 s_10 r_9 (0 : Int32) (200 : Int32))))))))))))))) else none))) else none)
set_option maxHeartbeats 4000000 in
set_option maxRecDepth 100000 in
theorem q_Model_asksOf_0 (K : Fx p s m args meth c b_Model_asksOf 7 R_Model (some .int))  : ∀ (H : Heap) (locs : List Loc) (ls : Array Slot) (s0 : St) (v1 : Int32) (v2 : Int32) (v3 : Int32) (v4 : Int32) (v5 : Int32) (v6 : Int32), Wh D cA ad shM A s s0 H locs → lv_has ls 7 [(0, .ref (ad 0)), (1, .int v1), (2, .int v2), (3, .int v3), (4, .int v4), (5, .int v5), (6, .int v6)] → F_Model_asksOf_0 s0 v1 v2 v3 v4 v5 v6 = (some (r, τ)) → W p l e rm_Model_asksOf s m args below meth c H locs 0 0 (MQ below (QcI D cA ad shM A r τ) args s 0 0 A) (F0 m 0 ls []) := by
  have hx := K.1.1; have hb := K.1.2.1
  intro H locs ls s0 v1 v2 v3 v4 v5 v6 hw hl hF
  unfold F_Model_asksOf_0 at hF
  refine lv_aload_n hx hb d_Model_asksOf_0 rfl (lv_at hl 0 rfl) ?_
  refine r_get (v := .ref (ad 18)) K hw i_Model sh_Model rfl 31 (by decide) w_1056 rfl rfl rfl d_Model_asksOf_1 ?_
  refine lv_iconst (v := 0) hx hb d_Model_asksOf_4 (by decide) ?_
  refine lv_aload_n hx hb d_Model_asksOf_5 rfl (lv_at hl 0 rfl) ?_
  refine r_get (v := .ref (ad 2)) K hw i_Model sh_Model rfl 2 (by decide) w_1027 rfl rfl rfl d_Model_asksOf_6 ?_
  refine lv_iload_n hx hb d_Model_asksOf_9 rfl (lv_at hl 2 rfl) ?_
  obtain ⟨g_1, hF⟩ := ifG hF
  refine r_iald (k := v2.toNatClampNeg) K hw (show shM[2]? = some (.inr (.inl 6)) from rfl) rfl (inB_vp g_1) d_Model_asksOf_10 ?_
  refine r_iast (k := 0) K hw (show shM[18]? = some (.inr (.inl 6)) from rfl) (by decide) (inB_vp (by decide)) d_Model_asksOf_11 (fun s_2 f_s_2 H locs hw => ?_)
  replace hF := ltN hF f_s_2
  refine lv_aload_n hx hb d_Model_asksOf_12 rfl (lv_at hl 0 rfl) ?_
  refine r_get (v := .ref (ad 18)) K hw i_Model sh_Model rfl 31 (by decide) w_1056 rfl rfl rfl d_Model_asksOf_13 ?_
  refine lv_iconst (v := 1) hx hb d_Model_asksOf_16 (by decide) ?_
  refine lv_aload_n hx hb d_Model_asksOf_17 rfl (lv_at hl 0 rfl) ?_
  refine r_get (v := .ref (ad 3)) K hw i_Model sh_Model rfl 3 (by decide) w_1028 rfl rfl rfl d_Model_asksOf_18 ?_
  refine lv_iload_n hx hb d_Model_asksOf_21 rfl (lv_at hl 2 rfl) ?_
  obtain ⟨g_3, hF⟩ := ifG hF
  refine r_iald (k := v2.toNatClampNeg) K hw (show shM[3]? = some (.inr (.inl 6)) from rfl) rfl (inB_vp g_3) d_Model_asksOf_22 ?_
  refine r_iast (k := 1) K hw (show shM[18]? = some (.inr (.inl 6)) from rfl) (by decide) (inB_vp (by decide)) d_Model_asksOf_23 (fun s_4 f_s_4 H locs hw => ?_)
  replace hF := ltN hF f_s_4
  refine lv_aload_n hx hb d_Model_asksOf_24 rfl (lv_at hl 0 rfl) ?_
  refine r_get (v := .ref (ad 18)) K hw i_Model sh_Model rfl 31 (by decide) w_1056 rfl rfl rfl d_Model_asksOf_25 ?_
  refine lv_iconst (v := 2) hx hb d_Model_asksOf_28 (by decide) ?_
  refine lv_iload_n hx hb d_Model_asksOf_29 rfl (lv_at hl 3 rfl) ?_
  refine r_iast (k := 2) K hw (show shM[18]? = some (.inr (.inl 6)) from rfl) (by decide) (inB_vp (by decide)) d_Model_asksOf_30 (fun s_5 f_s_5 H locs hw => ?_)
  replace hF := ltN hF f_s_5
  refine lv_aload_n hx hb d_Model_asksOf_31 rfl (lv_at hl 0 rfl) ?_
  refine r_get (v := .ref (ad 18)) K hw i_Model sh_Model rfl 31 (by decide) w_1056 rfl rfl rfl d_Model_asksOf_32 ?_
  refine lv_iconst (v := 3) hx hb d_Model_asksOf_35 (by decide) ?_
  refine lv_iload hx hb d_Model_asksOf_36 (lv_at hl 4 rfl) ?_
  refine r_iast (k := 3) K hw (show shM[18]? = some (.inr (.inl 6)) from rfl) (by decide) (inB_vp (by decide)) d_Model_asksOf_38 (fun s_6 f_s_6 H locs hw => ?_)
  replace hF := ltN hF f_s_6
  refine lv_aload_n hx hb d_Model_asksOf_39 rfl (lv_at hl 0 rfl) ?_
  refine r_get (v := .ref (ad 18)) K hw i_Model sh_Model rfl 31 (by decide) w_1056 rfl rfl rfl d_Model_asksOf_40 ?_
  refine lv_iconst (v := 4) hx hb d_Model_asksOf_43 (by decide) ?_
  refine lv_iload hx hb d_Model_asksOf_44 (lv_at hl 5 rfl) ?_
  refine r_iast (k := 4) K hw (show shM[18]? = some (.inr (.inl 6)) from rfl) (by decide) (inB_vp (by decide)) d_Model_asksOf_46 (fun s_7 f_s_7 H locs hw => ?_)
  replace hF := ltN hF f_s_7
  refine lv_aload_n hx hb d_Model_asksOf_47 rfl (lv_at hl 0 rfl) ?_
  refine r_get (v := .ref (ad 18)) K hw i_Model sh_Model rfl 31 (by decide) w_1056 rfl rfl rfl d_Model_asksOf_48 ?_
  refine lv_iconst (v := 5) hx hb d_Model_asksOf_51 (by decide) ?_
  refine lv_iload hx hb d_Model_asksOf_52 (lv_at hl 6 rfl) ?_
  refine r_iast (k := 5) K hw (show shM[18]? = some (.inr (.inl 6)) from rfl) (by decide) (inB_vp (by decide)) d_Model_asksOf_54 (fun s_8 f_s_8 H locs hw => ?_)
  replace hF := ltN hF f_s_8
  refine lv_aload_n hx hb d_Model_asksOf_55 rfl (lv_at hl 0 rfl) ?_
  refine lv_iload_n hx hb d_Model_asksOf_56 rfl (lv_at hl 1 rfl) ?_
  obtain ⟨r_9, s_10, h_s_10, hF⟩ := ob2E hF
  refine r_callVI (As := [.int v1]) (rest := []) K hw hl.1 (c_Model_says (l := l) (D := D) (cA := cA) (ad := ad) (s0 := s_8)   h_s_10) sh_Model rfl (tb_gV w_1189 w_1191 w_41 w_80 w_1192) a_Model_says ⟨rfl, rfl, Nat.le_of_ble_eq_true rfl, Nat.le_of_ble_eq_true rfl⟩ rfl rfl (Nat.le_of_ble_eq_true rfl) d_Model_asksOf_57 (fun H locs hw => ?_)
  refine lv_iconst (v := 0) hx hb d_Model_asksOf_60 (by decide) ?_
  refine lv_iload_n hx hb d_Model_asksOf_61 rfl (lv_at hl 1 rfl) ?_
  refine lv_if_ne (tgt := 71) hx hb d_Model_asksOf_62 (by decide) (fun c_11 => ?_) (fun c_11 => ?_)
  · replace hF := ifT hF c_11
    refine lv_iload_n hx hb d_Model_asksOf_71 rfl (lv_at hl 1 rfl) ?_
    refine lv_iconst (v := 1) hx hb d_Model_asksOf_72 (by decide) ?_
    refine lv_icmp_ne (tgt := 81) hx hb d_Model_asksOf_73 (by decide) (fun c_12 => ?_) (fun c_12 => ?_)
    · replace hF := ifT hF c_12
      refine lv_bipush (v := 100) hx hb d_Model_asksOf_81 (by decide) ?_
      exact q_Model_asksOf_83 K _ _ _ _ _ _ _  hw (lv_sub hl [] rfl) hF
    · replace hF := ifN hF c_12
      refine lv_bipush (v := 9) hx hb d_Model_asksOf_76 (by decide) ?_
      refine lv_goto (tgt := 83) hx hb d_Model_asksOf_78 (by decide) ?_
      exact q_Model_asksOf_83 K _ _ _ _ _ _ _  hw (lv_sub hl [] rfl) hF
  · replace hF := ifN hF c_11
    refine lv_sipush (v := 200) hx hb d_Model_asksOf_65 (by decide) ?_
    refine lv_goto (tgt := 83) hx hb d_Model_asksOf_68 (by decide) ?_
    exact q_Model_asksOf_83 K _ _ _ _ _ _ _  hw (lv_sub hl [] rfl) hF
end S_Model_asksOf
noncomputable abbrev F_Model_asksOf := F_Model_asksOf_0
theorem c_Model_asksOf {l : Launch} {D : va_G} {cA : Nat → ClassId} {ad : Nat → Nat} {s0 τ : St} {r : Int32} {v1 : Int32} {v2 : Int32} {v3 : Int32} {v4 : Int32} {v5 : Int32} {v6 : Int32}  (hF : F_Model_asksOf s0 v1 v2 v3 v4 v5 v6 = (some (r, τ))) : MI l D cA ad shM y_Model_asksOf (wT y_Model_asksOf b_Model_asksOf 7 (some .int)) rm_Model_asksOf [.ref (ad 0), .int v1, .int v2, .int v3, .int v4, .int v5, .int v6] s0 r τ := fun sz => m_start (Qc := fun A => QcI D cA ad shM A r τ) (by decide +kernel) w_1188 (Nat.le_of_ble_eq_true rfl) (fun p e s m below meth c ls K hl hw => q_Model_asksOf_0 K _ _ _ _ _ _ _ _ _ _  hw hl hF)

/-! Model.asks(IIIII)I -/
abbrev b_Model_asks : ByteArray := prog_13_method_26_code
def y_Model_asks : MethodName := ⟨R_Model, "asks", "(IIIII)I"⟩
theorem a_Model_asks : y_Model_asks.cls = R_Model ∧ y_Model_asks.cls ≠ "java/lang/invoke/MethodHandle" ∧ y_Model_asks.cls ≠ "java/lang/invoke/VarHandle" ∧ (parseMethodDescriptor y_Model_asks.desc).map (fun d => d.parameters.length) = some 5 := by decide +kernel
abbrev rm_Model_asks : Room := { frames := 3, cells := 0, slots := 0, locals := 72 }
theorem w_1185 : Cond.methodLink R_Model 165 y_Model_asksOf ∈ TB := tb_in 1185 (by decide +kernel) (by decide +kernel)
theorem w_1187 : Cond.instanceMethod y_Model_asksOf ∈ TB := tb_in 1187 (by decide +kernel) (by decide +kernel)
theorem w_40 : Cond.selects R_Model y_Model_asksOf y_Model_asksOf ∈ TB := tb_in 40 (by decide +kernel) (by decide +kernel)
theorem w_1180 : Cond.code y_Model_asks b_Model_asks 7 (some .int) ∈ TB := tb_in 1180 (by decide +kernel) (by decide +kernel)
theorem d_Model_asks_0 : decode b_Model_asks 0 = .ok (.aload_n 0, 1) := by decide +kernel
theorem d_Model_asks_1 : decode b_Model_asks 1 = .ok (.iload_n 2, 1) := by decide +kernel
theorem d_Model_asks_2 : decode b_Model_asks 2 = .ok (.invokevirtual 82, 3) := by decide +kernel
theorem d_Model_asks_5 : decode b_Model_asks 5 = .ok (.ifCond .ne 6, 3) := by decide +kernel
theorem d_Model_asks_8 : decode b_Model_asks 8 = .ok (.bipush (-5), 2) := by decide +kernel
theorem d_Model_asks_10 : decode b_Model_asks 10 = .ok (.ireturn, 1) := by decide +kernel
theorem d_Model_asks_11 : decode b_Model_asks 11 = .ok (.iload_n 1, 1) := by decide +kernel
theorem d_Model_asks_12 : decode b_Model_asks 12 = .ok (.iconst 0, 1) := by decide +kernel
theorem d_Model_asks_13 : decode b_Model_asks 13 = .ok (.iconst 2, 1) := by decide +kernel
theorem d_Model_asks_14 : decode b_Model_asks 14 = .ok (.invokestatic 78, 3) := by decide +kernel
theorem d_Model_asks_17 : decode b_Model_asks 17 = .ok (.ifCond .eq 49, 3) := by decide +kernel
theorem d_Model_asks_20 : decode b_Model_asks 20 = .ok (.iload_n 3, 1) := by decide +kernel
theorem d_Model_asks_21 : decode b_Model_asks 21 = .ok (.iconst 0, 1) := by decide +kernel
theorem d_Model_asks_22 : decode b_Model_asks 22 = .ok (.sipush 243, 3) := by decide +kernel
theorem d_Model_asks_25 : decode b_Model_asks 25 = .ok (.invokestatic 78, 3) := by decide +kernel
theorem d_Model_asks_28 : decode b_Model_asks 28 = .ok (.ifCond .eq 38, 3) := by decide +kernel
theorem d_Model_asks_31 : decode b_Model_asks 31 = .ok (.iload_n 3, 1) := by decide +kernel
theorem d_Model_asks_32 : decode b_Model_asks 32 = .ok (.bipush 10, 2) := by decide +kernel
theorem d_Model_asks_34 : decode b_Model_asks 34 = .ok (.irem, 1) := by decide +kernel
theorem d_Model_asks_35 : decode b_Model_asks 35 = .ok (.iconst 4, 1) := by decide +kernel
theorem d_Model_asks_36 : decode b_Model_asks 36 = .ok (.if_icmp .ge 30, 3) := by decide +kernel
theorem d_Model_asks_39 : decode b_Model_asks 39 = .ok (.iload 4, 2) := by decide +kernel
theorem d_Model_asks_41 : decode b_Model_asks 41 = .ok (.bipush (-30), 2) := by decide +kernel
theorem d_Model_asks_43 : decode b_Model_asks 43 = .ok (.bipush 30, 2) := by decide +kernel
theorem d_Model_asks_45 : decode b_Model_asks 45 = .ok (.invokestatic 78, 3) := by decide +kernel
theorem d_Model_asks_48 : decode b_Model_asks 48 = .ok (.ifCond .eq 18, 3) := by decide +kernel
theorem d_Model_asks_51 : decode b_Model_asks 51 = .ok (.iload 5, 2) := by decide +kernel
theorem d_Model_asks_53 : decode b_Model_asks 53 = .ok (.iconst 0, 1) := by decide +kernel
theorem d_Model_asks_54 : decode b_Model_asks 54 = .ok (.bipush 40, 2) := by decide +kernel
theorem d_Model_asks_56 : decode b_Model_asks 56 = .ok (.invokestatic 78, 3) := by decide +kernel
theorem d_Model_asks_59 : decode b_Model_asks 59 = .ok (.ifCond .eq 7, 3) := by decide +kernel
theorem d_Model_asks_62 : decode b_Model_asks 62 = .ok (.iconst 1, 1) := by decide +kernel
theorem d_Model_asks_63 : decode b_Model_asks 63 = .ok (.goto 4, 3) := by decide +kernel
theorem d_Model_asks_66 : decode b_Model_asks 66 = .ok (.iconst 0, 1) := by decide +kernel
theorem d_Model_asks_67 : decode b_Model_asks 67 = .ok (.istore 6, 2) := by decide +kernel
theorem d_Model_asks_69 : decode b_Model_asks 69 = .ok (.iload 6, 2) := by decide +kernel
theorem d_Model_asks_71 : decode b_Model_asks 71 = .ok (.ifCond .eq 24, 3) := by decide +kernel
theorem d_Model_asks_74 : decode b_Model_asks 74 = .ok (.aload_n 0, 1) := by decide +kernel
theorem d_Model_asks_75 : decode b_Model_asks 75 = .ok (.iload_n 1, 1) := by decide +kernel
theorem d_Model_asks_76 : decode b_Model_asks 76 = .ok (.iload_n 2, 1) := by decide +kernel
theorem d_Model_asks_77 : decode b_Model_asks 77 = .ok (.iload_n 3, 1) := by decide +kernel
theorem d_Model_asks_78 : decode b_Model_asks 78 = .ok (.bipush 10, 2) := by decide +kernel
theorem d_Model_asks_80 : decode b_Model_asks 80 = .ok (.idiv, 1) := by decide +kernel
theorem d_Model_asks_81 : decode b_Model_asks 81 = .ok (.iload_n 3, 1) := by decide +kernel
theorem d_Model_asks_82 : decode b_Model_asks 82 = .ok (.bipush 10, 2) := by decide +kernel
theorem d_Model_asks_84 : decode b_Model_asks 84 = .ok (.irem, 1) := by decide +kernel
theorem d_Model_asks_85 : decode b_Model_asks 85 = .ok (.iload 4, 2) := by decide +kernel
theorem d_Model_asks_87 : decode b_Model_asks 87 = .ok (.iload 5, 2) := by decide +kernel
theorem d_Model_asks_89 : decode b_Model_asks 89 = .ok (.invokevirtual 165, 3) := by decide +kernel
theorem d_Model_asks_92 : decode b_Model_asks 92 = .ok (.goto 5, 3) := by decide +kernel
theorem d_Model_asks_95 : decode b_Model_asks 95 = .ok (.bipush (-7), 2) := by decide +kernel
theorem d_Model_asks_97 : decode b_Model_asks 97 = .ok (.ireturn, 1) := by decide +kernel
section S_Model_asks
variable {p : Program} {l : Launch} {e : Env} {s : State} {m : MethodId} {args : Array Value} {below : List Frame} {meth : Method} {c : Code} {D : va_G} {cA : Nat → ClassId} {ad : Nat → Nat} {nC : Nat} {A : Nat → Prop} {r : Int32} {τ : St}
noncomputable def F_Model_asks_67 (s0 : St) (v1 : Int32) (v2 : Int32) (v3 : Int32) (v4 : Int32) (v5 : Int32) (t0 : Int32) : Option (Int32 × St) := (if t0 = 0 then (some ((-7 : Int32), s0)) else (ob2 (F_Model_asksOf s0 v1 v2 (v3 / (10 : Int32)) (jrem v3 (10 : Int32)) v4 v5) (fun r_5 s_6 => (some (r_5, s_6)))))
set_option maxHeartbeats 4000000 in
set_option maxRecDepth 100000 in
theorem q_Model_asks_67 (K : Fx p s m args meth c b_Model_asks 7 R_Model (some .int))  : ∀ (H : Heap) (locs : List Loc) (ls : Array Slot) (s0 : St) (v1 : Int32) (v2 : Int32) (v3 : Int32) (v4 : Int32) (v5 : Int32) (t0 : Int32), Wh D cA ad shM A s s0 H locs → lv_has ls 7 [(0, .ref (ad 0)), (1, .int v1), (2, .int v2), (3, .int v3), (4, .int v4), (5, .int v5)] → F_Model_asks_67 s0 v1 v2 v3 v4 v5 t0 = (some (r, τ)) → W p l e rm_Model_asks s m args below meth c H locs 0 0 (MQ below (QcI D cA ad shM A r τ) args s 0 0 A) (F0 m 67 ls [.int t0]) := by
  have hx := K.1.1; have hb := K.1.2.1
  intro H locs ls s0 v1 v2 v3 v4 v5 t0 hw hl hF
  unfold F_Model_asks_67 at hF
  refine lv_istore (lv' := [(6, .int t0), (0, .ref (ad 0)), (1, .int v1), (2, .int v2), (3, .int v3), (4, .int v4), (5, .int v5)]) hx hb d_Model_asks_67 hl (by decide) rfl (fun ls hl => ?_)
  refine lv_iload hx hb d_Model_asks_69 (lv_at hl 0 rfl) ?_
  refine lv_if_eq (tgt := 95) hx hb d_Model_asks_71 (by decide) (fun c_4 => ?_) (fun c_4 => ?_)
  · replace hF := ifT hF c_4
    refine lv_bipush (v := -7) hx hb d_Model_asks_95 (by decide) ?_
    obtain ⟨hF, hG⟩ := sE2 hF
    subst hF
    subst hG
    exact r_iret K hw d_Model_asks_97
  · replace hF := ifF hF c_4
    refine lv_aload_n hx hb d_Model_asks_74 rfl (lv_at hl 1 rfl) ?_
    refine lv_iload_n hx hb d_Model_asks_75 rfl (lv_at hl 2 rfl) ?_
    refine lv_iload_n hx hb d_Model_asks_76 rfl (lv_at hl 3 rfl) ?_
    refine lv_iload_n hx hb d_Model_asks_77 rfl (lv_at hl 4 rfl) ?_
    refine lv_bipush (v := 10) hx hb d_Model_asks_78 (by decide) ?_
    refine lv_idiv hx hb d_Model_asks_80 (by decide) ?_
    refine lv_iload_n hx hb d_Model_asks_81 rfl (lv_at hl 4 rfl) ?_
    refine lv_bipush (v := 10) hx hb d_Model_asks_82 (by decide) ?_
    refine lv_irem hx hb d_Model_asks_84 (by decide) ?_
    refine lv_iload hx hb d_Model_asks_85 (lv_at hl 5 rfl) ?_
    refine lv_iload hx hb d_Model_asks_87 (lv_at hl 6 rfl) ?_
    obtain ⟨r_5, s_6, h_s_6, hF⟩ := ob2E hF
    refine r_callVI (As := [.int v1, .int v2, .int (v3 / (10 : Int32)), .int (jrem v3 (10 : Int32)), .int v4, .int v5]) (rest := []) K hw hl.1 (c_Model_asksOf (l := l) (D := D) (cA := cA) (ad := ad) (s0 := s0)   h_s_6) sh_Model rfl (tb_gV w_1185 w_1187 w_40 w_80 w_1188) a_Model_asksOf ⟨rfl, rfl, Nat.le_of_ble_eq_true rfl, Nat.le_of_ble_eq_true rfl⟩ rfl rfl (Nat.le_of_ble_eq_true rfl) d_Model_asks_89 (fun H locs hw => ?_)
    refine lv_goto (tgt := 97) hx hb d_Model_asks_92 (by decide) ?_
    obtain ⟨hF, hG⟩ := sE2 hF
    subst hF
    subst hG
    exact r_iret K hw d_Model_asks_97
noncomputable def F_Model_asks_66 (s0 : St) (v1 : Int32) (v2 : Int32) (v3 : Int32) (v4 : Int32) (v5 : Int32) : Option (Int32 × St) := (F_Model_asks_67 s0 v1 v2 v3 v4 v5 (0 : Int32))
set_option maxHeartbeats 4000000 in
set_option maxRecDepth 100000 in
theorem q_Model_asks_66 (K : Fx p s m args meth c b_Model_asks 7 R_Model (some .int))  : ∀ (H : Heap) (locs : List Loc) (ls : Array Slot) (s0 : St) (v1 : Int32) (v2 : Int32) (v3 : Int32) (v4 : Int32) (v5 : Int32), Wh D cA ad shM A s s0 H locs → lv_has ls 7 [(0, .ref (ad 0)), (1, .int v1), (2, .int v2), (3, .int v3), (4, .int v4), (5, .int v5)] → F_Model_asks_66 s0 v1 v2 v3 v4 v5 = (some (r, τ)) → W p l e rm_Model_asks s m args below meth c H locs 0 0 (MQ below (QcI D cA ad shM A r τ) args s 0 0 A) (F0 m 66 ls []) := by
  have hx := K.1.1; have hb := K.1.2.1
  intro H locs ls s0 v1 v2 v3 v4 v5 hw hl hF
  unfold F_Model_asks_66 at hF
  refine lv_iconst (v := 0) hx hb d_Model_asks_66 (by decide) ?_
  exact q_Model_asks_67 K _ _ _ _ _ _ _ _ _ _  hw (lv_sub hl [0, 1, 2, 3, 4, 5] rfl) hF
noncomputable def F_Model_asks_0 (s0 : St) (v1 : Int32) (v2 : Int32) (v3 : Int32) (v4 : Int32) (v5 : Int32) : Option (Int32 × St) := (ob1 (F_Model_isArm s0 v2) (fun r_1 => (if ¬ r_1 = 0 then (if (F_Model_in v1 (0 : Int32) (2 : Int32)) = 0 then (F_Model_asks_66 s0 v1 v2 v3 v4 v5) else (if (F_Model_in v3 (0 : Int32) (243 : Int32)) = 0 then (F_Model_asks_66 s0 v1 v2 v3 v4 v5) else (if (4 : Int32) ≤ (jrem v3 (10 : Int32)) then (F_Model_asks_66 s0 v1 v2 v3 v4 v5) else (if (F_Model_in v4 (-30 : Int32) (30 : Int32)) = 0 then (F_Model_asks_66 s0 v1 v2 v3 v4 v5) else (if (F_Model_in v5 (0 : Int32) (40 : Int32)) = 0 then (F_Model_asks_66 s0 v1 v2 v3 v4 v5) else (F_Model_asks_67 s0 v1 v2 v3 v4 v5 (1 : Int32))))))) else (some ((-5 : Int32), s0)))))
set_option maxHeartbeats 4000000 in
set_option maxRecDepth 100000 in
theorem q_Model_asks_0 (K : Fx p s m args meth c b_Model_asks 7 R_Model (some .int))  : ∀ (H : Heap) (locs : List Loc) (ls : Array Slot) (s0 : St) (v1 : Int32) (v2 : Int32) (v3 : Int32) (v4 : Int32) (v5 : Int32), Wh D cA ad shM A s s0 H locs → lv_has ls 7 [(0, .ref (ad 0)), (1, .int v1), (2, .int v2), (3, .int v3), (4, .int v4), (5, .int v5)] → F_Model_asks_0 s0 v1 v2 v3 v4 v5 = (some (r, τ)) → W p l e rm_Model_asks s m args below meth c H locs 0 0 (MQ below (QcI D cA ad shM A r τ) args s 0 0 A) (F0 m 0 ls []) := by
  have hx := K.1.1; have hb := K.1.2.1
  intro H locs ls s0 v1 v2 v3 v4 v5 hw hl hF
  unfold F_Model_asks_0 at hF
  refine lv_aload_n hx hb d_Model_asks_0 rfl (lv_at hl 0 rfl) ?_
  refine lv_iload_n hx hb d_Model_asks_1 rfl (lv_at hl 2 rfl) ?_
  obtain ⟨r_1, h_r_1, hF⟩ := ob1E hF
  refine r_callVI (As := [.int v2]) (rest := []) K hw hl.1 (c_Model_isArm (l := l) (D := D) (cA := cA) (ad := ad) (s0 := s0)   h_r_1) sh_Model rfl (tb_gV w_1181 w_1183 w_39 w_80 w_1184) a_Model_isArm ⟨rfl, rfl, Nat.le_of_ble_eq_true rfl, Nat.le_of_ble_eq_true rfl⟩ rfl rfl (Nat.le_of_ble_eq_true rfl) d_Model_asks_2 (fun H locs hw => ?_)
  refine lv_if_ne (tgt := 11) hx hb d_Model_asks_5 (by decide) (fun c_2 => ?_) (fun c_2 => ?_)
  · replace hF := ifT hF c_2
    refine lv_iload_n hx hb d_Model_asks_11 rfl (lv_at hl 1 rfl) ?_
    refine lv_iconst (v := 0) hx hb d_Model_asks_12 (by decide) ?_
    refine lv_iconst (v := 2) hx hb d_Model_asks_13 (by decide) ?_
    refine r_callSI (As := [.int v1, .int (0 : Int32), .int (2 : Int32)]) (rest := []) K hw hl.1 (c_Model_in (l := l) (D := D) (cA := cA) (ad := ad) (s0 := s0)   rfl) (tb_gS w_986 w_987 w_80 w_988) a_Model_in ⟨rfl, rfl, Nat.le_of_ble_eq_true rfl, Nat.le_of_ble_eq_true rfl⟩ rfl rfl (Nat.le_of_ble_eq_true rfl) d_Model_asks_14 (fun H locs hw => ?_)
    refine lv_if_eq (tgt := 66) hx hb d_Model_asks_17 (by decide) (fun c_3 => ?_) (fun c_3 => ?_)
    · replace hF := ifT hF c_3
      exact q_Model_asks_66 K _ _ _ _ _ _ _ _ _  hw (lv_sub hl [0, 1, 2, 3, 4, 5] rfl) hF
    · replace hF := ifF hF c_3
      refine lv_iload_n hx hb d_Model_asks_20 rfl (lv_at hl 3 rfl) ?_
      refine lv_iconst (v := 0) hx hb d_Model_asks_21 (by decide) ?_
      refine lv_sipush (v := 243) hx hb d_Model_asks_22 (by decide) ?_
      refine r_callSI (As := [.int v3, .int (0 : Int32), .int (243 : Int32)]) (rest := []) K hw hl.1 (c_Model_in (l := l) (D := D) (cA := cA) (ad := ad) (s0 := s0)   rfl) (tb_gS w_986 w_987 w_80 w_988) a_Model_in ⟨rfl, rfl, Nat.le_of_ble_eq_true rfl, Nat.le_of_ble_eq_true rfl⟩ rfl rfl (Nat.le_of_ble_eq_true rfl) d_Model_asks_25 (fun H locs hw => ?_)
      refine lv_if_eq (tgt := 66) hx hb d_Model_asks_28 (by decide) (fun c_7 => ?_) (fun c_7 => ?_)
      · replace hF := ifT hF c_7
        exact q_Model_asks_66 K _ _ _ _ _ _ _ _ _  hw (lv_sub hl [0, 1, 2, 3, 4, 5] rfl) hF
      · replace hF := ifF hF c_7
        refine lv_iload_n hx hb d_Model_asks_31 rfl (lv_at hl 3 rfl) ?_
        refine lv_bipush (v := 10) hx hb d_Model_asks_32 (by decide) ?_
        refine lv_irem hx hb d_Model_asks_34 (by decide) ?_
        refine lv_iconst (v := 4) hx hb d_Model_asks_35 (by decide) ?_
        refine lv_icmp_ge (tgt := 66) hx hb d_Model_asks_36 (by decide) (fun c_8 => ?_) (fun c_8 => ?_)
        · replace hF := ifT hF c_8
          exact q_Model_asks_66 K _ _ _ _ _ _ _ _ _  hw (lv_sub hl [0, 1, 2, 3, 4, 5] rfl) hF
        · replace hF := ifF hF c_8
          refine lv_iload hx hb d_Model_asks_39 (lv_at hl 4 rfl) ?_
          refine lv_bipush (v := -30) hx hb d_Model_asks_41 (by decide) ?_
          refine lv_bipush (v := 30) hx hb d_Model_asks_43 (by decide) ?_
          refine r_callSI (As := [.int v4, .int (-30 : Int32), .int (30 : Int32)]) (rest := []) K hw hl.1 (c_Model_in (l := l) (D := D) (cA := cA) (ad := ad) (s0 := s0)   rfl) (tb_gS w_986 w_987 w_80 w_988) a_Model_in ⟨rfl, rfl, Nat.le_of_ble_eq_true rfl, Nat.le_of_ble_eq_true rfl⟩ rfl rfl (Nat.le_of_ble_eq_true rfl) d_Model_asks_45 (fun H locs hw => ?_)
          refine lv_if_eq (tgt := 66) hx hb d_Model_asks_48 (by decide) (fun c_9 => ?_) (fun c_9 => ?_)
          · replace hF := ifT hF c_9
            exact q_Model_asks_66 K _ _ _ _ _ _ _ _ _  hw (lv_sub hl [0, 1, 2, 3, 4, 5] rfl) hF
          · replace hF := ifF hF c_9
            refine lv_iload hx hb d_Model_asks_51 (lv_at hl 5 rfl) ?_
            refine lv_iconst (v := 0) hx hb d_Model_asks_53 (by decide) ?_
            refine lv_bipush (v := 40) hx hb d_Model_asks_54 (by decide) ?_
            refine r_callSI (As := [.int v5, .int (0 : Int32), .int (40 : Int32)]) (rest := []) K hw hl.1 (c_Model_in (l := l) (D := D) (cA := cA) (ad := ad) (s0 := s0)   rfl) (tb_gS w_986 w_987 w_80 w_988) a_Model_in ⟨rfl, rfl, Nat.le_of_ble_eq_true rfl, Nat.le_of_ble_eq_true rfl⟩ rfl rfl (Nat.le_of_ble_eq_true rfl) d_Model_asks_56 (fun H locs hw => ?_)
            refine lv_if_eq (tgt := 66) hx hb d_Model_asks_59 (by decide) (fun c_10 => ?_) (fun c_10 => ?_)
            · replace hF := ifT hF c_10
              exact q_Model_asks_66 K _ _ _ _ _ _ _ _ _  hw (lv_sub hl [0, 1, 2, 3, 4, 5] rfl) hF
            · replace hF := ifF hF c_10
              refine lv_iconst (v := 1) hx hb d_Model_asks_62 (by decide) ?_
              refine lv_goto (tgt := 67) hx hb d_Model_asks_63 (by decide) ?_
              exact q_Model_asks_67 K _ _ _ _ _ _ _ _ _ _  hw (lv_sub hl [0, 1, 2, 3, 4, 5] rfl) hF
  · replace hF := ifN hF c_2
    refine lv_bipush (v := -5) hx hb d_Model_asks_8 (by decide) ?_
    obtain ⟨hF, hG⟩ := sE2 hF
    subst hF
    subst hG
    exact r_iret K hw d_Model_asks_10
end S_Model_asks
noncomputable abbrev F_Model_asks := F_Model_asks_0
theorem c_Model_asks {l : Launch} {D : va_G} {cA : Nat → ClassId} {ad : Nat → Nat} {s0 τ : St} {r : Int32} {v1 : Int32} {v2 : Int32} {v3 : Int32} {v4 : Int32} {v5 : Int32}  (hF : F_Model_asks s0 v1 v2 v3 v4 v5 = (some (r, τ))) : MI l D cA ad shM y_Model_asks (wT y_Model_asks b_Model_asks 7 (some .int)) rm_Model_asks [.ref (ad 0), .int v1, .int v2, .int v3, .int v4, .int v5] s0 r τ := fun sz => m_start (Qc := fun A => QcI D cA ad shM A r τ) (by decide +kernel) w_1180 (Nat.le_of_ble_eq_true rfl) (fun p e s m below meth c ls K hl hw => q_Model_asks_0 K _ _ _ _ _ _ _ _ _  hw hl hF)

/-! Model.arm(III)I -/
abbrev b_Model_arm : ByteArray := prog_13_method_27_code
def y_Model_arm : MethodName := ⟨R_Model, "arm", "(III)I"⟩
theorem a_Model_arm : y_Model_arm.cls = R_Model ∧ y_Model_arm.cls ≠ "java/lang/invoke/MethodHandle" ∧ y_Model_arm.cls ≠ "java/lang/invoke/VarHandle" ∧ (parseMethodDescriptor y_Model_arm.desc).map (fun d => d.parameters.length) = some 3 := by decide +kernel
abbrev rm_Model_arm : Room := { frames := 1, cells := 0, slots := 0, locals := 22 }
theorem w_1026 : Cond.fieldLink R_Model 7 R_Model "kind" "[I" ∈ TB := tb_in 1026 (by decide +kernel) (by decide +kernel)
theorem w_1029 : Cond.fieldLink R_Model 19 R_Model "holdOf" "[I" ∈ TB := tb_in 1029 (by decide +kernel) (by decide +kernel)
theorem w_1030 : Cond.fieldLink R_Model 22 R_Model "planOf" "[I" ∈ TB := tb_in 1030 (by decide +kernel) (by decide +kernel)
theorem w_1202 : Cond.code y_Model_arm b_Model_arm 4 (some .int) ∈ TB := tb_in 1202 (by decide +kernel) (by decide +kernel)
theorem d_Model_arm_0 : decode b_Model_arm 0 = .ok (.iload_n 1, 1) := by decide +kernel
theorem d_Model_arm_1 : decode b_Model_arm 1 = .ok (.iconst 0, 1) := by decide +kernel
theorem d_Model_arm_2 : decode b_Model_arm 2 = .ok (.iconst 5, 1) := by decide +kernel
theorem d_Model_arm_3 : decode b_Model_arm 3 = .ok (.invokestatic 78, 3) := by decide +kernel
theorem d_Model_arm_6 : decode b_Model_arm 6 = .ok (.ifCond .eq 23, 3) := by decide +kernel
theorem d_Model_arm_9 : decode b_Model_arm 9 = .ok (.iload_n 2, 1) := by decide +kernel
theorem d_Model_arm_10 : decode b_Model_arm 10 = .ok (.iconst 0, 1) := by decide +kernel
theorem d_Model_arm_11 : decode b_Model_arm 11 = .ok (.bipush 99, 2) := by decide +kernel
theorem d_Model_arm_13 : decode b_Model_arm 13 = .ok (.invokestatic 78, 3) := by decide +kernel
theorem d_Model_arm_16 : decode b_Model_arm 16 = .ok (.ifCond .eq 13, 3) := by decide +kernel
theorem d_Model_arm_19 : decode b_Model_arm 19 = .ok (.iload_n 3, 1) := by decide +kernel
theorem d_Model_arm_20 : decode b_Model_arm 20 = .ok (.iconst 0, 1) := by decide +kernel
theorem d_Model_arm_21 : decode b_Model_arm 21 = .ok (.bipush 9, 2) := by decide +kernel
theorem d_Model_arm_23 : decode b_Model_arm 23 = .ok (.invokestatic 78, 3) := by decide +kernel
theorem d_Model_arm_26 : decode b_Model_arm 26 = .ok (.ifCond .ne 6, 3) := by decide +kernel
theorem d_Model_arm_29 : decode b_Model_arm 29 = .ok (.bipush (-2), 2) := by decide +kernel
theorem d_Model_arm_31 : decode b_Model_arm 31 = .ok (.ireturn, 1) := by decide +kernel
theorem d_Model_arm_32 : decode b_Model_arm 32 = .ok (.aload_n 0, 1) := by decide +kernel
theorem d_Model_arm_33 : decode b_Model_arm 33 = .ok (.getfield 75, 3) := by decide +kernel
theorem d_Model_arm_36 : decode b_Model_arm 36 = .ok (.bipush 6, 2) := by decide +kernel
theorem d_Model_arm_38 : decode b_Model_arm 38 = .ok (.if_icmp .ne 6, 3) := by decide +kernel
theorem d_Model_arm_41 : decode b_Model_arm 41 = .ok (.bipush (-4), 2) := by decide +kernel
theorem d_Model_arm_43 : decode b_Model_arm 43 = .ok (.ireturn, 1) := by decide +kernel
theorem d_Model_arm_44 : decode b_Model_arm 44 = .ok (.aload_n 0, 1) := by decide +kernel
theorem d_Model_arm_45 : decode b_Model_arm 45 = .ok (.getfield 7, 3) := by decide +kernel
theorem d_Model_arm_48 : decode b_Model_arm 48 = .ok (.aload_n 0, 1) := by decide +kernel
theorem d_Model_arm_49 : decode b_Model_arm 49 = .ok (.getfield 75, 3) := by decide +kernel
theorem d_Model_arm_52 : decode b_Model_arm 52 = .ok (.iload_n 1, 1) := by decide +kernel
theorem d_Model_arm_53 : decode b_Model_arm 53 = .ok (.iastore, 1) := by decide +kernel
theorem d_Model_arm_54 : decode b_Model_arm 54 = .ok (.aload_n 0, 1) := by decide +kernel
theorem d_Model_arm_55 : decode b_Model_arm 55 = .ok (.getfield 13, 3) := by decide +kernel
theorem d_Model_arm_58 : decode b_Model_arm 58 = .ok (.aload_n 0, 1) := by decide +kernel
theorem d_Model_arm_59 : decode b_Model_arm 59 = .ok (.getfield 75, 3) := by decide +kernel
theorem d_Model_arm_62 : decode b_Model_arm 62 = .ok (.iload_n 2, 1) := by decide +kernel
theorem d_Model_arm_63 : decode b_Model_arm 63 = .ok (.iastore, 1) := by decide +kernel
theorem d_Model_arm_64 : decode b_Model_arm 64 = .ok (.aload_n 0, 1) := by decide +kernel
theorem d_Model_arm_65 : decode b_Model_arm 65 = .ok (.getfield 16, 3) := by decide +kernel
theorem d_Model_arm_68 : decode b_Model_arm 68 = .ok (.aload_n 0, 1) := by decide +kernel
theorem d_Model_arm_69 : decode b_Model_arm 69 = .ok (.getfield 75, 3) := by decide +kernel
theorem d_Model_arm_72 : decode b_Model_arm 72 = .ok (.iload_n 3, 1) := by decide +kernel
theorem d_Model_arm_73 : decode b_Model_arm 73 = .ok (.iastore, 1) := by decide +kernel
theorem d_Model_arm_74 : decode b_Model_arm 74 = .ok (.aload_n 0, 1) := by decide +kernel
theorem d_Model_arm_75 : decode b_Model_arm 75 = .ok (.getfield 19, 3) := by decide +kernel
theorem d_Model_arm_78 : decode b_Model_arm 78 = .ok (.aload_n 0, 1) := by decide +kernel
theorem d_Model_arm_79 : decode b_Model_arm 79 = .ok (.getfield 75, 3) := by decide +kernel
theorem d_Model_arm_82 : decode b_Model_arm 82 = .ok (.bipush 24, 2) := by decide +kernel
theorem d_Model_arm_84 : decode b_Model_arm 84 = .ok (.iastore, 1) := by decide +kernel
theorem d_Model_arm_85 : decode b_Model_arm 85 = .ok (.aload_n 0, 1) := by decide +kernel
theorem d_Model_arm_86 : decode b_Model_arm 86 = .ok (.getfield 22, 3) := by decide +kernel
theorem d_Model_arm_89 : decode b_Model_arm 89 = .ok (.aload_n 0, 1) := by decide +kernel
theorem d_Model_arm_90 : decode b_Model_arm 90 = .ok (.getfield 75, 3) := by decide +kernel
theorem d_Model_arm_93 : decode b_Model_arm 93 = .ok (.sipush 1111, 3) := by decide +kernel
theorem d_Model_arm_96 : decode b_Model_arm 96 = .ok (.iastore, 1) := by decide +kernel
theorem d_Model_arm_97 : decode b_Model_arm 97 = .ok (.aload_n 0, 1) := by decide +kernel
theorem d_Model_arm_98 : decode b_Model_arm 98 = .ok (.dup, 1) := by decide +kernel
theorem d_Model_arm_99 : decode b_Model_arm 99 = .ok (.getfield 75, 3) := by decide +kernel
theorem d_Model_arm_102 : decode b_Model_arm 102 = .ok (.iconst 1, 1) := by decide +kernel
theorem d_Model_arm_103 : decode b_Model_arm 103 = .ok (.iadd, 1) := by decide +kernel
theorem d_Model_arm_104 : decode b_Model_arm 104 = .ok (.putfield 75, 3) := by decide +kernel
theorem d_Model_arm_107 : decode b_Model_arm 107 = .ok (.aload_n 0, 1) := by decide +kernel
theorem d_Model_arm_108 : decode b_Model_arm 108 = .ok (.getfield 75, 3) := by decide +kernel
theorem d_Model_arm_111 : decode b_Model_arm 111 = .ok (.iconst 1, 1) := by decide +kernel
theorem d_Model_arm_112 : decode b_Model_arm 112 = .ok (.isub, 1) := by decide +kernel
theorem d_Model_arm_113 : decode b_Model_arm 113 = .ok (.ireturn, 1) := by decide +kernel
section S_Model_arm
variable {p : Program} {l : Launch} {e : Env} {s : State} {m : MethodId} {args : Array Value} {below : List Frame} {meth : Method} {c : Code} {D : va_G} {cA : Nat → ClassId} {ad : Nat → Nat} {nC : Nat} {A : Nat → Prop} {r : Int32} {τ : St}
noncomputable def F_Model_arm_0 (s0 : St) (v1 : Int32) (v2 : Int32) (v3 : Int32) : Option (Int32 × St) := (if (F_Model_in v1 (0 : Int32) (5 : Int32)) = 0 then (some ((-2 : Int32), s0)) else (if (F_Model_in v2 (0 : Int32) (99 : Int32)) = 0 then (some ((-2 : Int32), s0)) else (if ¬ (F_Model_in v3 (0 : Int32) (9 : Int32)) = 0 then (if ¬ (s0.1 0 0) = (6 : Int32) then (if inB (s0.1 0 0) 6 = true then (lt (up1 s0 1 (s0.1 0 0).toNatClampNeg v1) (fun s_6 => (if inB (s_6.1 0 0) 6 = true then (lt (up1 s_6 2 (s_6.1 0 0).toNatClampNeg v2) (fun s_8 => (if inB (s_8.1 0 0) 6 = true then (lt (up1 s_8 3 (s_8.1 0 0).toNatClampNeg v3) (fun s_10 => (if inB (s_10.1 0 0) 6 = true then (lt (up1 s_10 4 (s_10.1 0 0).toNatClampNeg (24 : Int32)) (fun s_12 => (if inB (s_12.1 0 0) 6 = true then (lt (up1 s_12 5 (s_12.1 0 0).toNatClampNeg (1111 : Int32)) (fun s_14 => (lt (up1 s_14 0 0 ((s_14.1 0 0) + (1 : Int32))) (fun s_15 => (some (((s_15.1 0 0) - (1 : Int32)), s_15)))))) else none))) else none))) else none))) else none))) else none) else (some ((-4 : Int32), s0))) else (some ((-2 : Int32), s0)))))
set_option maxHeartbeats 4000000 in
set_option maxRecDepth 100000 in
theorem q_Model_arm_0 (K : Fx p s m args meth c b_Model_arm 4 R_Model (some .int))  : ∀ (H : Heap) (locs : List Loc) (ls : Array Slot) (s0 : St) (v1 : Int32) (v2 : Int32) (v3 : Int32), Wh D cA ad shM A s s0 H locs → lv_has ls 4 [(0, .ref (ad 0)), (1, .int v1), (2, .int v2), (3, .int v3)] → F_Model_arm_0 s0 v1 v2 v3 = (some (r, τ)) → W p l e rm_Model_arm s m args below meth c H locs 0 0 (MQ below (QcI D cA ad shM A r τ) args s 0 0 A) (F0 m 0 ls []) := by
  have hx := K.1.1; have hb := K.1.2.1
  intro H locs ls s0 v1 v2 v3 hw hl hF
  unfold F_Model_arm_0 at hF
  refine lv_iload_n hx hb d_Model_arm_0 rfl (lv_at hl 1 rfl) ?_
  refine lv_iconst (v := 0) hx hb d_Model_arm_1 (by decide) ?_
  refine lv_iconst (v := 5) hx hb d_Model_arm_2 (by decide) ?_
  refine r_callSI (As := [.int v1, .int (0 : Int32), .int (5 : Int32)]) (rest := []) K hw hl.1 (c_Model_in (l := l) (D := D) (cA := cA) (ad := ad) (s0 := s0)   rfl) (tb_gS w_986 w_987 w_80 w_988) a_Model_in ⟨rfl, rfl, Nat.le_of_ble_eq_true rfl, Nat.le_of_ble_eq_true rfl⟩ rfl rfl (Nat.le_of_ble_eq_true rfl) d_Model_arm_3 (fun H locs hw => ?_)
  refine lv_if_eq (tgt := 29) hx hb d_Model_arm_6 (by decide) (fun c_1 => ?_) (fun c_1 => ?_)
  · replace hF := ifT hF c_1
    refine lv_bipush (v := -2) hx hb d_Model_arm_29 (by decide) ?_
    obtain ⟨hF, hG⟩ := sE2 hF
    subst hF
    subst hG
    exact r_iret K hw d_Model_arm_31
  · replace hF := ifF hF c_1
    refine lv_iload_n hx hb d_Model_arm_9 rfl (lv_at hl 2 rfl) ?_
    refine lv_iconst (v := 0) hx hb d_Model_arm_10 (by decide) ?_
    refine lv_bipush (v := 99) hx hb d_Model_arm_11 (by decide) ?_
    refine r_callSI (As := [.int v2, .int (0 : Int32), .int (99 : Int32)]) (rest := []) K hw hl.1 (c_Model_in (l := l) (D := D) (cA := cA) (ad := ad) (s0 := s0)   rfl) (tb_gS w_986 w_987 w_80 w_988) a_Model_in ⟨rfl, rfl, Nat.le_of_ble_eq_true rfl, Nat.le_of_ble_eq_true rfl⟩ rfl rfl (Nat.le_of_ble_eq_true rfl) d_Model_arm_13 (fun H locs hw => ?_)
    refine lv_if_eq (tgt := 29) hx hb d_Model_arm_16 (by decide) (fun c_2 => ?_) (fun c_2 => ?_)
    · replace hF := ifT hF c_2
      refine lv_bipush (v := -2) hx hb d_Model_arm_29 (by decide) ?_
      obtain ⟨hF, hG⟩ := sE2 hF
      subst hF
      subst hG
      exact r_iret K hw d_Model_arm_31
    · replace hF := ifF hF c_2
      refine lv_iload_n hx hb d_Model_arm_19 rfl (lv_at hl 3 rfl) ?_
      refine lv_iconst (v := 0) hx hb d_Model_arm_20 (by decide) ?_
      refine lv_bipush (v := 9) hx hb d_Model_arm_21 (by decide) ?_
      refine r_callSI (As := [.int v3, .int (0 : Int32), .int (9 : Int32)]) (rest := []) K hw hl.1 (c_Model_in (l := l) (D := D) (cA := cA) (ad := ad) (s0 := s0)   rfl) (tb_gS w_986 w_987 w_80 w_988) a_Model_in ⟨rfl, rfl, Nat.le_of_ble_eq_true rfl, Nat.le_of_ble_eq_true rfl⟩ rfl rfl (Nat.le_of_ble_eq_true rfl) d_Model_arm_23 (fun H locs hw => ?_)
      refine lv_if_ne (tgt := 32) hx hb d_Model_arm_26 (by decide) (fun c_3 => ?_) (fun c_3 => ?_)
      · replace hF := ifT hF c_3
        refine lv_aload_n hx hb d_Model_arm_32 rfl (lv_at hl 0 rfl) ?_
        refine r_get (v := .int (s0.1 0 0)) K hw i_Model sh_Model rfl 0 (by decide) w_1025 rfl rfl rfl d_Model_arm_33 ?_
        refine lv_bipush (v := 6) hx hb d_Model_arm_36 (by decide) ?_
        refine lv_icmp_ne (tgt := 44) hx hb d_Model_arm_38 (by decide) (fun c_4 => ?_) (fun c_4 => ?_)
        · replace hF := ifT hF c_4
          refine lv_aload_n hx hb d_Model_arm_44 rfl (lv_at hl 0 rfl) ?_
          refine r_get (v := .ref (ad 1)) K hw i_Model sh_Model rfl 1 (by decide) w_1026 rfl rfl rfl d_Model_arm_45 ?_
          refine lv_aload_n hx hb d_Model_arm_48 rfl (lv_at hl 0 rfl) ?_
          refine r_get (v := .int (s0.1 0 0)) K hw i_Model sh_Model rfl 0 (by decide) w_1025 rfl rfl rfl d_Model_arm_49 ?_
          refine lv_iload_n hx hb d_Model_arm_52 rfl (lv_at hl 1 rfl) ?_
          obtain ⟨g_5, hF⟩ := ifG hF
          refine r_iast (k := (s0.1 0 0).toNatClampNeg) K hw (show shM[1]? = some (.inr (.inl 6)) from rfl) rfl (inB_vp g_5) d_Model_arm_53 (fun s_6 f_s_6 H locs hw => ?_)
          replace hF := ltN hF f_s_6
          refine lv_aload_n hx hb d_Model_arm_54 rfl (lv_at hl 0 rfl) ?_
          refine r_get (v := .ref (ad 2)) K hw i_Model sh_Model rfl 2 (by decide) w_1027 rfl rfl rfl d_Model_arm_55 ?_
          refine lv_aload_n hx hb d_Model_arm_58 rfl (lv_at hl 0 rfl) ?_
          refine r_get (v := .int (s_6.1 0 0)) K hw i_Model sh_Model rfl 0 (by decide) w_1025 rfl rfl rfl d_Model_arm_59 ?_
          refine lv_iload_n hx hb d_Model_arm_62 rfl (lv_at hl 2 rfl) ?_
          obtain ⟨g_7, hF⟩ := ifG hF
          refine r_iast (k := (s_6.1 0 0).toNatClampNeg) K hw (show shM[2]? = some (.inr (.inl 6)) from rfl) rfl (inB_vp g_7) d_Model_arm_63 (fun s_8 f_s_8 H locs hw => ?_)
          replace hF := ltN hF f_s_8
          refine lv_aload_n hx hb d_Model_arm_64 rfl (lv_at hl 0 rfl) ?_
          refine r_get (v := .ref (ad 3)) K hw i_Model sh_Model rfl 3 (by decide) w_1028 rfl rfl rfl d_Model_arm_65 ?_
          refine lv_aload_n hx hb d_Model_arm_68 rfl (lv_at hl 0 rfl) ?_
          refine r_get (v := .int (s_8.1 0 0)) K hw i_Model sh_Model rfl 0 (by decide) w_1025 rfl rfl rfl d_Model_arm_69 ?_
          refine lv_iload_n hx hb d_Model_arm_72 rfl (lv_at hl 3 rfl) ?_
          obtain ⟨g_9, hF⟩ := ifG hF
          refine r_iast (k := (s_8.1 0 0).toNatClampNeg) K hw (show shM[3]? = some (.inr (.inl 6)) from rfl) rfl (inB_vp g_9) d_Model_arm_73 (fun s_10 f_s_10 H locs hw => ?_)
          replace hF := ltN hF f_s_10
          refine lv_aload_n hx hb d_Model_arm_74 rfl (lv_at hl 0 rfl) ?_
          refine r_get (v := .ref (ad 4)) K hw i_Model sh_Model rfl 4 (by decide) w_1029 rfl rfl rfl d_Model_arm_75 ?_
          refine lv_aload_n hx hb d_Model_arm_78 rfl (lv_at hl 0 rfl) ?_
          refine r_get (v := .int (s_10.1 0 0)) K hw i_Model sh_Model rfl 0 (by decide) w_1025 rfl rfl rfl d_Model_arm_79 ?_
          refine lv_bipush (v := 24) hx hb d_Model_arm_82 (by decide) ?_
          obtain ⟨g_11, hF⟩ := ifG hF
          refine r_iast (k := (s_10.1 0 0).toNatClampNeg) K hw (show shM[4]? = some (.inr (.inl 6)) from rfl) rfl (inB_vp g_11) d_Model_arm_84 (fun s_12 f_s_12 H locs hw => ?_)
          replace hF := ltN hF f_s_12
          refine lv_aload_n hx hb d_Model_arm_85 rfl (lv_at hl 0 rfl) ?_
          refine r_get (v := .ref (ad 5)) K hw i_Model sh_Model rfl 5 (by decide) w_1030 rfl rfl rfl d_Model_arm_86 ?_
          refine lv_aload_n hx hb d_Model_arm_89 rfl (lv_at hl 0 rfl) ?_
          refine r_get (v := .int (s_12.1 0 0)) K hw i_Model sh_Model rfl 0 (by decide) w_1025 rfl rfl rfl d_Model_arm_90 ?_
          refine lv_sipush (v := 1111) hx hb d_Model_arm_93 (by decide) ?_
          obtain ⟨g_13, hF⟩ := ifG hF
          refine r_iast (k := (s_12.1 0 0).toNatClampNeg) K hw (show shM[5]? = some (.inr (.inl 6)) from rfl) rfl (inB_vp g_13) d_Model_arm_96 (fun s_14 f_s_14 H locs hw => ?_)
          replace hF := ltN hF f_s_14
          refine lv_aload_n hx hb d_Model_arm_97 rfl (lv_at hl 0 rfl) ?_
          refine lv_dup hx hb d_Model_arm_98 rfl ?_
          refine r_get (v := .int (s_14.1 0 0)) K hw i_Model sh_Model rfl 0 (by decide) w_1025 rfl rfl rfl d_Model_arm_99 ?_
          refine lv_iconst (v := 1) hx hb d_Model_arm_102 (by decide) ?_
          refine lv_iadd hx hb d_Model_arm_103 ?_
          refine r_putI K hw i_Model t_Model t_Model_ok n_Model sh_Model rfl 0 (by decide) w_1025 rfl rfl rfl rfl rfl d_Model_arm_104 (fun s_15 f_s_15 H locs hw => ?_)
          replace hF := ltN hF f_s_15
          refine lv_aload_n hx hb d_Model_arm_107 rfl (lv_at hl 0 rfl) ?_
          refine r_get (v := .int (s_15.1 0 0)) K hw i_Model sh_Model rfl 0 (by decide) w_1025 rfl rfl rfl d_Model_arm_108 ?_
          refine lv_iconst (v := 1) hx hb d_Model_arm_111 (by decide) ?_
          refine lv_isub hx hb d_Model_arm_112 ?_
          obtain ⟨hF, hG⟩ := sE2 hF
          subst hF
          subst hG
          exact r_iret K hw d_Model_arm_113
        · replace hF := ifN hF c_4
          refine lv_bipush (v := -4) hx hb d_Model_arm_41 (by decide) ?_
          obtain ⟨hF, hG⟩ := sE2 hF
          subst hF
          subst hG
          exact r_iret K hw d_Model_arm_43
      · replace hF := ifN hF c_3
        refine lv_bipush (v := -2) hx hb d_Model_arm_29 (by decide) ?_
        obtain ⟨hF, hG⟩ := sE2 hF
        subst hF
        subst hG
        exact r_iret K hw d_Model_arm_31
end S_Model_arm
noncomputable abbrev F_Model_arm := F_Model_arm_0
theorem c_Model_arm {l : Launch} {D : va_G} {cA : Nat → ClassId} {ad : Nat → Nat} {s0 τ : St} {r : Int32} {v1 : Int32} {v2 : Int32} {v3 : Int32}  (hF : F_Model_arm s0 v1 v2 v3 = (some (r, τ))) : MI l D cA ad shM y_Model_arm (wT y_Model_arm b_Model_arm 4 (some .int)) rm_Model_arm [.ref (ad 0), .int v1, .int v2, .int v3] s0 r τ := fun sz => m_start (Qc := fun A => QcI D cA ad shM A r τ) (by decide +kernel) w_1202 (Nat.le_of_ble_eq_true rfl) (fun p e s m below meth c ls K hl hw => q_Model_arm_0 K _ _ _ _ _ _ _  hw hl hF)

/-! Model.isPlan(I)Z -/
abbrev b_Model_isPlan : ByteArray := prog_13_method_28_code
def y_Model_isPlan : MethodName := ⟨R_Model, "isPlan", "(I)Z"⟩
theorem a_Model_isPlan : y_Model_isPlan.cls = R_Model ∧ y_Model_isPlan.cls ≠ "java/lang/invoke/MethodHandle" ∧ y_Model_isPlan.cls ≠ "java/lang/invoke/VarHandle" ∧ (parseMethodDescriptor y_Model_isPlan.desc).map (fun d => d.parameters.length) = some 1 := by decide +kernel
abbrev rm_Model_isPlan : Room := { frames := 1, cells := 0, slots := 0, locals := 22 }
theorem w_1209 : Cond.code y_Model_isPlan b_Model_isPlan 1 (some .boolean) ∈ TB := tb_in 1209 (by decide +kernel) (by decide +kernel)
theorem d_Model_isPlan_0 : decode b_Model_isPlan 0 = .ok (.iload_n 0, 1) := by decide +kernel
theorem d_Model_isPlan_1 : decode b_Model_isPlan 1 = .ok (.iconst 0, 1) := by decide +kernel
theorem d_Model_isPlan_2 : decode b_Model_isPlan 2 = .ok (.sipush 3333, 3) := by decide +kernel
theorem d_Model_isPlan_5 : decode b_Model_isPlan 5 = .ok (.invokestatic 78, 3) := by decide +kernel
theorem d_Model_isPlan_8 : decode b_Model_isPlan 8 = .ok (.ifCond .eq 37, 3) := by decide +kernel
theorem d_Model_isPlan_11 : decode b_Model_isPlan 11 = .ok (.iload_n 0, 1) := by decide +kernel
theorem d_Model_isPlan_12 : decode b_Model_isPlan 12 = .ok (.bipush 10, 2) := by decide +kernel
theorem d_Model_isPlan_14 : decode b_Model_isPlan 14 = .ok (.irem, 1) := by decide +kernel
theorem d_Model_isPlan_15 : decode b_Model_isPlan 15 = .ok (.iconst 4, 1) := by decide +kernel
theorem d_Model_isPlan_16 : decode b_Model_isPlan 16 = .ok (.if_icmp .ge 29, 3) := by decide +kernel
theorem d_Model_isPlan_19 : decode b_Model_isPlan 19 = .ok (.iload_n 0, 1) := by decide +kernel
theorem d_Model_isPlan_20 : decode b_Model_isPlan 20 = .ok (.bipush 10, 2) := by decide +kernel
theorem d_Model_isPlan_22 : decode b_Model_isPlan 22 = .ok (.idiv, 1) := by decide +kernel
theorem d_Model_isPlan_23 : decode b_Model_isPlan 23 = .ok (.bipush 10, 2) := by decide +kernel
theorem d_Model_isPlan_25 : decode b_Model_isPlan 25 = .ok (.irem, 1) := by decide +kernel
theorem d_Model_isPlan_26 : decode b_Model_isPlan 26 = .ok (.iconst 4, 1) := by decide +kernel
theorem d_Model_isPlan_27 : decode b_Model_isPlan 27 = .ok (.if_icmp .ge 18, 3) := by decide +kernel
theorem d_Model_isPlan_30 : decode b_Model_isPlan 30 = .ok (.iload_n 0, 1) := by decide +kernel
theorem d_Model_isPlan_31 : decode b_Model_isPlan 31 = .ok (.bipush 100, 2) := by decide +kernel
theorem d_Model_isPlan_33 : decode b_Model_isPlan 33 = .ok (.idiv, 1) := by decide +kernel
theorem d_Model_isPlan_34 : decode b_Model_isPlan 34 = .ok (.bipush 10, 2) := by decide +kernel
theorem d_Model_isPlan_36 : decode b_Model_isPlan 36 = .ok (.irem, 1) := by decide +kernel
theorem d_Model_isPlan_37 : decode b_Model_isPlan 37 = .ok (.iconst 4, 1) := by decide +kernel
theorem d_Model_isPlan_38 : decode b_Model_isPlan 38 = .ok (.if_icmp .ge 7, 3) := by decide +kernel
theorem d_Model_isPlan_41 : decode b_Model_isPlan 41 = .ok (.iconst 1, 1) := by decide +kernel
theorem d_Model_isPlan_42 : decode b_Model_isPlan 42 = .ok (.goto 4, 3) := by decide +kernel
theorem d_Model_isPlan_45 : decode b_Model_isPlan 45 = .ok (.iconst 0, 1) := by decide +kernel
theorem d_Model_isPlan_46 : decode b_Model_isPlan 46 = .ok (.ireturn, 1) := by decide +kernel
section S_Model_isPlan
variable {p : Program} {l : Launch} {e : Env} {s : State} {m : MethodId} {args : Array Value} {below : List Frame} {meth : Method} {c : Code} {D : va_G} {cA : Nat → ClassId} {ad : Nat → Nat} {nC : Nat} {A : Nat → Prop} {r : Int32} {τ : St}
noncomputable def F_Model_isPlan_0 (v0 : Int32) : Int32 := (if (F_Model_in v0 (0 : Int32) (3333 : Int32)) = 0 then (0 : Int32) else (if (4 : Int32) ≤ (jrem v0 (10 : Int32)) then (0 : Int32) else (if (4 : Int32) ≤ (jrem (v0 / (10 : Int32)) (10 : Int32)) then (0 : Int32) else (if (4 : Int32) ≤ (jrem (v0 / (100 : Int32)) (10 : Int32)) then (0 : Int32) else (1 : Int32)))))
set_option maxHeartbeats 4000000 in
set_option maxRecDepth 100000 in
theorem q_Model_isPlan_0 (s0 : St) (K : Fx p s m args meth c b_Model_isPlan 1 R_Model (some .boolean))  : ∀ (H : Heap) (locs : List Loc) (ls : Array Slot) (v0 : Int32), Wh D cA ad shM A s s0 H locs → lv_has ls 1 [(0, .int v0)] → F_Model_isPlan_0 v0 = r → W p l e rm_Model_isPlan s m args below meth c H locs 0 0 (MQ below (QcI D cA ad shM A r s0) args s 0 0 A) (F0 m 0 ls []) := by
  have hx := K.1.1; have hb := K.1.2.1
  intro H locs ls v0 hw hl hF
  unfold F_Model_isPlan_0 at hF
  refine lv_iload_n hx hb d_Model_isPlan_0 rfl (lv_at hl 0 rfl) ?_
  refine lv_iconst (v := 0) hx hb d_Model_isPlan_1 (by decide) ?_
  refine lv_sipush (v := 3333) hx hb d_Model_isPlan_2 (by decide) ?_
  refine r_callSI (As := [.int v0, .int (0 : Int32), .int (3333 : Int32)]) (rest := []) K hw hl.1 (c_Model_in (l := l) (D := D) (cA := cA) (ad := ad) (s0 := s0)   rfl) (tb_gS w_986 w_987 w_80 w_988) a_Model_in ⟨rfl, rfl, Nat.le_of_ble_eq_true rfl, Nat.le_of_ble_eq_true rfl⟩ rfl rfl (Nat.le_of_ble_eq_true rfl) d_Model_isPlan_5 (fun H locs hw => ?_)
  refine lv_if_eq (tgt := 45) hx hb d_Model_isPlan_8 (by decide) (fun c_1 => ?_) (fun c_1 => ?_)
  · replace hF := ifT hF c_1
    refine lv_iconst (v := 0) hx hb d_Model_isPlan_45 (by decide) ?_
    subst hF
    exact r_zret K hw (by decide) d_Model_isPlan_46
  · replace hF := ifF hF c_1
    refine lv_iload_n hx hb d_Model_isPlan_11 rfl (lv_at hl 0 rfl) ?_
    refine lv_bipush (v := 10) hx hb d_Model_isPlan_12 (by decide) ?_
    refine lv_irem hx hb d_Model_isPlan_14 (by decide) ?_
    refine lv_iconst (v := 4) hx hb d_Model_isPlan_15 (by decide) ?_
    refine lv_icmp_ge (tgt := 45) hx hb d_Model_isPlan_16 (by decide) (fun c_2 => ?_) (fun c_2 => ?_)
    · replace hF := ifT hF c_2
      refine lv_iconst (v := 0) hx hb d_Model_isPlan_45 (by decide) ?_
      subst hF
      exact r_zret K hw (by decide) d_Model_isPlan_46
    · replace hF := ifF hF c_2
      refine lv_iload_n hx hb d_Model_isPlan_19 rfl (lv_at hl 0 rfl) ?_
      refine lv_bipush (v := 10) hx hb d_Model_isPlan_20 (by decide) ?_
      refine lv_idiv hx hb d_Model_isPlan_22 (by decide) ?_
      refine lv_bipush (v := 10) hx hb d_Model_isPlan_23 (by decide) ?_
      refine lv_irem hx hb d_Model_isPlan_25 (by decide) ?_
      refine lv_iconst (v := 4) hx hb d_Model_isPlan_26 (by decide) ?_
      refine lv_icmp_ge (tgt := 45) hx hb d_Model_isPlan_27 (by decide) (fun c_3 => ?_) (fun c_3 => ?_)
      · replace hF := ifT hF c_3
        refine lv_iconst (v := 0) hx hb d_Model_isPlan_45 (by decide) ?_
        subst hF
        exact r_zret K hw (by decide) d_Model_isPlan_46
      · replace hF := ifF hF c_3
        refine lv_iload_n hx hb d_Model_isPlan_30 rfl (lv_at hl 0 rfl) ?_
        refine lv_bipush (v := 100) hx hb d_Model_isPlan_31 (by decide) ?_
        refine lv_idiv hx hb d_Model_isPlan_33 (by decide) ?_
        refine lv_bipush (v := 10) hx hb d_Model_isPlan_34 (by decide) ?_
        refine lv_irem hx hb d_Model_isPlan_36 (by decide) ?_
        refine lv_iconst (v := 4) hx hb d_Model_isPlan_37 (by decide) ?_
        refine lv_icmp_ge (tgt := 45) hx hb d_Model_isPlan_38 (by decide) (fun c_4 => ?_) (fun c_4 => ?_)
        · replace hF := ifT hF c_4
          refine lv_iconst (v := 0) hx hb d_Model_isPlan_45 (by decide) ?_
          subst hF
          exact r_zret K hw (by decide) d_Model_isPlan_46
        · replace hF := ifF hF c_4
          refine lv_iconst (v := 1) hx hb d_Model_isPlan_41 (by decide) ?_
          refine lv_goto (tgt := 46) hx hb d_Model_isPlan_42 (by decide) ?_
          subst hF
          exact r_zret K hw (by decide) d_Model_isPlan_46
end S_Model_isPlan
noncomputable abbrev F_Model_isPlan := F_Model_isPlan_0
theorem c_Model_isPlan {l : Launch} {D : va_G} {cA : Nat → ClassId} {ad : Nat → Nat} {s0 : St} {r : Int32} {v0 : Int32}  (hF : F_Model_isPlan v0 = r) : MI l D cA ad shM y_Model_isPlan (wT y_Model_isPlan b_Model_isPlan 1 (some .boolean)) rm_Model_isPlan [.int v0] s0 r s0 := fun sz => m_start (Qc := fun A => QcI D cA ad shM A r s0) (by decide +kernel) w_1209 (Nat.le_of_ble_eq_true rfl) (fun p e s m below meth c ls K hl hw => q_Model_isPlan_0 s0 K _ _ _ _  hw hl hF)

/-! Model.set(III)I -/
abbrev b_Model_set : ByteArray := prog_13_method_29_code
def y_Model_set : MethodName := ⟨R_Model, "set", "(III)I"⟩
theorem a_Model_set : y_Model_set.cls = R_Model ∧ y_Model_set.cls ≠ "java/lang/invoke/MethodHandle" ∧ y_Model_set.cls ≠ "java/lang/invoke/VarHandle" ∧ (parseMethodDescriptor y_Model_set.desc).map (fun d => d.parameters.length) = some 3 := by decide +kernel
abbrev rm_Model_set : Room := { frames := 2, cells := 0, slots := 0, locals := 43 }
theorem w_1207 : Cond.methodLink R_Model 169 y_Model_isPlan ∈ TB := tb_in 1207 (by decide +kernel) (by decide +kernel)
theorem w_1208 : Cond.static y_Model_isPlan ∈ TB := tb_in 1208 (by decide +kernel) (by decide +kernel)
theorem w_1206 : Cond.code y_Model_set b_Model_set 5 (some .int) ∈ TB := tb_in 1206 (by decide +kernel) (by decide +kernel)
theorem d_Model_set_0 : decode b_Model_set 0 = .ok (.aload_n 0, 1) := by decide +kernel
theorem d_Model_set_1 : decode b_Model_set 1 = .ok (.iload_n 1, 1) := by decide +kernel
theorem d_Model_set_2 : decode b_Model_set 2 = .ok (.invokevirtual 82, 3) := by decide +kernel
theorem d_Model_set_5 : decode b_Model_set 5 = .ok (.ifCond .ne 6, 3) := by decide +kernel
theorem d_Model_set_8 : decode b_Model_set 8 = .ok (.bipush (-5), 2) := by decide +kernel
theorem d_Model_set_10 : decode b_Model_set 10 = .ok (.ireturn, 1) := by decide +kernel
theorem d_Model_set_11 : decode b_Model_set 11 = .ok (.iload_n 2, 1) := by decide +kernel
theorem d_Model_set_12 : decode b_Model_set 12 = .ok (.iconst 0, 1) := by decide +kernel
theorem d_Model_set_13 : decode b_Model_set 13 = .ok (.iconst 1, 1) := by decide +kernel
theorem d_Model_set_14 : decode b_Model_set 14 = .ok (.invokestatic 78, 3) := by decide +kernel
theorem d_Model_set_17 : decode b_Model_set 17 = .ok (.ifCond .eq 27, 3) := by decide +kernel
theorem d_Model_set_20 : decode b_Model_set 20 = .ok (.iload_n 2, 1) := by decide +kernel
theorem d_Model_set_21 : decode b_Model_set 21 = .ok (.ifCond .ne 16, 3) := by decide +kernel
theorem d_Model_set_24 : decode b_Model_set 24 = .ok (.iload_n 3, 1) := by decide +kernel
theorem d_Model_set_25 : decode b_Model_set 25 = .ok (.iconst 0, 1) := by decide +kernel
theorem d_Model_set_26 : decode b_Model_set 26 = .ok (.bipush 24, 2) := by decide +kernel
theorem d_Model_set_28 : decode b_Model_set 28 = .ok (.invokestatic 78, 3) := by decide +kernel
theorem d_Model_set_31 : decode b_Model_set 31 = .ok (.ifCond .ne 16, 3) := by decide +kernel
theorem d_Model_set_34 : decode b_Model_set 34 = .ok (.goto 10, 3) := by decide +kernel
theorem d_Model_set_37 : decode b_Model_set 37 = .ok (.iload_n 3, 1) := by decide +kernel
theorem d_Model_set_38 : decode b_Model_set 38 = .ok (.invokestatic 169, 3) := by decide +kernel
theorem d_Model_set_41 : decode b_Model_set 41 = .ok (.ifCond .ne 6, 3) := by decide +kernel
theorem d_Model_set_44 : decode b_Model_set 44 = .ok (.bipush (-7), 2) := by decide +kernel
theorem d_Model_set_46 : decode b_Model_set 46 = .ok (.ireturn, 1) := by decide +kernel
theorem d_Model_set_47 : decode b_Model_set 47 = .ok (.iload_n 2, 1) := by decide +kernel
theorem d_Model_set_48 : decode b_Model_set 48 = .ok (.ifCond .ne 12, 3) := by decide +kernel
theorem d_Model_set_51 : decode b_Model_set 51 = .ok (.aload_n 0, 1) := by decide +kernel
theorem d_Model_set_52 : decode b_Model_set 52 = .ok (.getfield 19, 3) := by decide +kernel
theorem d_Model_set_55 : decode b_Model_set 55 = .ok (.iload_n 1, 1) := by decide +kernel
theorem d_Model_set_56 : decode b_Model_set 56 = .ok (.iaload, 1) := by decide +kernel
theorem d_Model_set_57 : decode b_Model_set 57 = .ok (.goto 9, 3) := by decide +kernel
theorem d_Model_set_60 : decode b_Model_set 60 = .ok (.aload_n 0, 1) := by decide +kernel
theorem d_Model_set_61 : decode b_Model_set 61 = .ok (.getfield 22, 3) := by decide +kernel
theorem d_Model_set_64 : decode b_Model_set 64 = .ok (.iload_n 1, 1) := by decide +kernel
theorem d_Model_set_65 : decode b_Model_set 65 = .ok (.iaload, 1) := by decide +kernel
theorem d_Model_set_66 : decode b_Model_set 66 = .ok (.istore 4, 2) := by decide +kernel
theorem d_Model_set_68 : decode b_Model_set 68 = .ok (.aload_n 0, 1) := by decide +kernel
theorem d_Model_set_69 : decode b_Model_set 69 = .ok (.getfield 19, 3) := by decide +kernel
theorem d_Model_set_72 : decode b_Model_set 72 = .ok (.iload_n 1, 1) := by decide +kernel
theorem d_Model_set_73 : decode b_Model_set 73 = .ok (.iload_n 2, 1) := by decide +kernel
theorem d_Model_set_74 : decode b_Model_set 74 = .ok (.ifCond .ne 7, 3) := by decide +kernel
theorem d_Model_set_77 : decode b_Model_set 77 = .ok (.iload_n 3, 1) := by decide +kernel
theorem d_Model_set_78 : decode b_Model_set 78 = .ok (.goto 9, 3) := by decide +kernel
theorem d_Model_set_81 : decode b_Model_set 81 = .ok (.aload_n 0, 1) := by decide +kernel
theorem d_Model_set_82 : decode b_Model_set 82 = .ok (.getfield 19, 3) := by decide +kernel
theorem d_Model_set_85 : decode b_Model_set 85 = .ok (.iload_n 1, 1) := by decide +kernel
theorem d_Model_set_86 : decode b_Model_set 86 = .ok (.iaload, 1) := by decide +kernel
theorem d_Model_set_87 : decode b_Model_set 87 = .ok (.iastore, 1) := by decide +kernel
theorem d_Model_set_88 : decode b_Model_set 88 = .ok (.aload_n 0, 1) := by decide +kernel
theorem d_Model_set_89 : decode b_Model_set 89 = .ok (.getfield 22, 3) := by decide +kernel
theorem d_Model_set_92 : decode b_Model_set 92 = .ok (.iload_n 1, 1) := by decide +kernel
theorem d_Model_set_93 : decode b_Model_set 93 = .ok (.iload_n 2, 1) := by decide +kernel
theorem d_Model_set_94 : decode b_Model_set 94 = .ok (.iconst 1, 1) := by decide +kernel
theorem d_Model_set_95 : decode b_Model_set 95 = .ok (.if_icmp .ne 7, 3) := by decide +kernel
theorem d_Model_set_98 : decode b_Model_set 98 = .ok (.iload_n 3, 1) := by decide +kernel
theorem d_Model_set_99 : decode b_Model_set 99 = .ok (.goto 9, 3) := by decide +kernel
theorem d_Model_set_102 : decode b_Model_set 102 = .ok (.aload_n 0, 1) := by decide +kernel
theorem d_Model_set_103 : decode b_Model_set 103 = .ok (.getfield 22, 3) := by decide +kernel
theorem d_Model_set_106 : decode b_Model_set 106 = .ok (.iload_n 1, 1) := by decide +kernel
theorem d_Model_set_107 : decode b_Model_set 107 = .ok (.iaload, 1) := by decide +kernel
theorem d_Model_set_108 : decode b_Model_set 108 = .ok (.iastore, 1) := by decide +kernel
theorem d_Model_set_109 : decode b_Model_set 109 = .ok (.iload 4, 2) := by decide +kernel
theorem d_Model_set_111 : decode b_Model_set 111 = .ok (.ireturn, 1) := by decide +kernel
section S_Model_set
variable {p : Program} {l : Launch} {e : Env} {s : State} {m : MethodId} {args : Array Value} {below : List Frame} {meth : Method} {c : Code} {D : va_G} {cA : Nat → ClassId} {ad : Nat → Nat} {nC : Nat} {A : Nat → Prop} {r : Int32} {τ : St}
noncomputable def F_Model_set_108 (s0 : St) (v4 : Int32) (t1 : Int32) (t2 : Int32) : Option (Int32 × St) := (if inB t1 6 = true then (lt (up1 s0 5 t1.toNatClampNeg t2) (fun s_15 => (some (v4, s_15)))) else none)
set_option maxHeartbeats 4000000 in
set_option maxRecDepth 100000 in
theorem q_Model_set_108 (K : Fx p s m args meth c b_Model_set 5 R_Model (some .int))  : ∀ (H : Heap) (locs : List Loc) (ls : Array Slot) (s0 : St) (v4 : Int32) (t1 : Int32) (t2 : Int32), Wh D cA ad shM A s s0 H locs → lv_has ls 5 [(4, .int v4)] → F_Model_set_108 s0 v4 t1 t2 = (some (r, τ)) → W p l e rm_Model_set s m args below meth c H locs 0 0 (MQ below (QcI D cA ad shM A r τ) args s 0 0 A) (F0 m 108 ls [.int t2, .int t1, .ref (ad 5)]) := by
  have hx := K.1.1; have hb := K.1.2.1
  intro H locs ls s0 v4 t1 t2 hw hl hF
  unfold F_Model_set_108 at hF
  obtain ⟨g_14, hF⟩ := ifG hF
  refine r_iast (k := t1.toNatClampNeg) K hw (show shM[5]? = some (.inr (.inl 6)) from rfl) rfl (inB_vp g_14) d_Model_set_108 (fun s_15 f_s_15 H locs hw => ?_)
  replace hF := ltN hF f_s_15
  refine lv_iload hx hb d_Model_set_109 (lv_at hl 0 rfl) ?_
  obtain ⟨hF, hG⟩ := sE2 hF
  subst hF
  subst hG
  exact r_iret K hw d_Model_set_111
noncomputable def F_Model_set_87 (s0 : St) (v1 : Int32) (v2 : Int32) (v3 : Int32) (v4 : Int32) (t1 : Int32) (t2 : Int32) : Option (Int32 × St) := (if inB t1 6 = true then (lt (up1 s0 4 t1.toNatClampNeg t2) (fun s_11 => (if ¬ v2 = (1 : Int32) then (if inB v1 6 = true then (F_Model_set_108 s_11 v4 v1 (s_11.1 5 v1.toNatClampNeg)) else none) else (F_Model_set_108 s_11 v4 v1 v3)))) else none)
set_option maxHeartbeats 4000000 in
set_option maxRecDepth 100000 in
theorem q_Model_set_87 (K : Fx p s m args meth c b_Model_set 5 R_Model (some .int))  : ∀ (H : Heap) (locs : List Loc) (ls : Array Slot) (s0 : St) (v1 : Int32) (v2 : Int32) (v3 : Int32) (v4 : Int32) (t1 : Int32) (t2 : Int32), Wh D cA ad shM A s s0 H locs → lv_has ls 5 [(0, .ref (ad 0)), (1, .int v1), (2, .int v2), (3, .int v3), (4, .int v4)] → F_Model_set_87 s0 v1 v2 v3 v4 t1 t2 = (some (r, τ)) → W p l e rm_Model_set s m args below meth c H locs 0 0 (MQ below (QcI D cA ad shM A r τ) args s 0 0 A) (F0 m 87 ls [.int t2, .int t1, .ref (ad 4)]) := by
  have hx := K.1.1; have hb := K.1.2.1
  intro H locs ls s0 v1 v2 v3 v4 t1 t2 hw hl hF
  unfold F_Model_set_87 at hF
  obtain ⟨g_10, hF⟩ := ifG hF
  refine r_iast (k := t1.toNatClampNeg) K hw (show shM[4]? = some (.inr (.inl 6)) from rfl) rfl (inB_vp g_10) d_Model_set_87 (fun s_11 f_s_11 H locs hw => ?_)
  replace hF := ltN hF f_s_11
  refine lv_aload_n hx hb d_Model_set_88 rfl (lv_at hl 0 rfl) ?_
  refine r_get (v := .ref (ad 5)) K hw i_Model sh_Model rfl 5 (by decide) w_1030 rfl rfl rfl d_Model_set_89 ?_
  refine lv_iload_n hx hb d_Model_set_92 rfl (lv_at hl 1 rfl) ?_
  refine lv_iload_n hx hb d_Model_set_93 rfl (lv_at hl 2 rfl) ?_
  refine lv_iconst (v := 1) hx hb d_Model_set_94 (by decide) ?_
  refine lv_icmp_ne (tgt := 102) hx hb d_Model_set_95 (by decide) (fun c_12 => ?_) (fun c_12 => ?_)
  · replace hF := ifT hF c_12
    refine lv_aload_n hx hb d_Model_set_102 rfl (lv_at hl 0 rfl) ?_
    refine r_get (v := .ref (ad 5)) K hw i_Model sh_Model rfl 5 (by decide) w_1030 rfl rfl rfl d_Model_set_103 ?_
    refine lv_iload_n hx hb d_Model_set_106 rfl (lv_at hl 1 rfl) ?_
    obtain ⟨g_13, hF⟩ := ifG hF
    refine r_iald (k := v1.toNatClampNeg) K hw (show shM[5]? = some (.inr (.inl 6)) from rfl) rfl (inB_vp g_13) d_Model_set_107 ?_
    exact q_Model_set_108 K _ _ _ _ _ _ _  hw (lv_sub hl [4] rfl) hF
  · replace hF := ifN hF c_12
    refine lv_iload_n hx hb d_Model_set_98 rfl (lv_at hl 3 rfl) ?_
    refine lv_goto (tgt := 108) hx hb d_Model_set_99 (by decide) ?_
    exact q_Model_set_108 K _ _ _ _ _ _ _  hw (lv_sub hl [4] rfl) hF
noncomputable def F_Model_set_66 (s0 : St) (v1 : Int32) (v2 : Int32) (v3 : Int32) (t0 : Int32) : Option (Int32 × St) := (if ¬ v2 = 0 then (if inB v1 6 = true then (F_Model_set_87 s0 v1 v2 v3 t0 v1 (s0.1 4 v1.toNatClampNeg)) else none) else (F_Model_set_87 s0 v1 v2 v3 t0 v1 v3))
set_option maxHeartbeats 4000000 in
set_option maxRecDepth 100000 in
theorem q_Model_set_66 (K : Fx p s m args meth c b_Model_set 5 R_Model (some .int))  : ∀ (H : Heap) (locs : List Loc) (ls : Array Slot) (s0 : St) (v1 : Int32) (v2 : Int32) (v3 : Int32) (t0 : Int32), Wh D cA ad shM A s s0 H locs → lv_has ls 5 [(0, .ref (ad 0)), (1, .int v1), (2, .int v2), (3, .int v3)] → F_Model_set_66 s0 v1 v2 v3 t0 = (some (r, τ)) → W p l e rm_Model_set s m args below meth c H locs 0 0 (MQ below (QcI D cA ad shM A r τ) args s 0 0 A) (F0 m 66 ls [.int t0]) := by
  have hx := K.1.1; have hb := K.1.2.1
  intro H locs ls s0 v1 v2 v3 t0 hw hl hF
  unfold F_Model_set_66 at hF
  refine lv_istore (lv' := [(4, .int t0), (0, .ref (ad 0)), (1, .int v1), (2, .int v2), (3, .int v3)]) hx hb d_Model_set_66 hl (by decide) rfl (fun ls hl => ?_)
  refine lv_aload_n hx hb d_Model_set_68 rfl (lv_at hl 1 rfl) ?_
  refine r_get (v := .ref (ad 4)) K hw i_Model sh_Model rfl 4 (by decide) w_1029 rfl rfl rfl d_Model_set_69 ?_
  refine lv_iload_n hx hb d_Model_set_72 rfl (lv_at hl 2 rfl) ?_
  refine lv_iload_n hx hb d_Model_set_73 rfl (lv_at hl 3 rfl) ?_
  refine lv_if_ne (tgt := 81) hx hb d_Model_set_74 (by decide) (fun c_8 => ?_) (fun c_8 => ?_)
  · replace hF := ifT hF c_8
    refine lv_aload_n hx hb d_Model_set_81 rfl (lv_at hl 1 rfl) ?_
    refine r_get (v := .ref (ad 4)) K hw i_Model sh_Model rfl 4 (by decide) w_1029 rfl rfl rfl d_Model_set_82 ?_
    refine lv_iload_n hx hb d_Model_set_85 rfl (lv_at hl 2 rfl) ?_
    obtain ⟨g_9, hF⟩ := ifG hF
    refine r_iald (k := v1.toNatClampNeg) K hw (show shM[4]? = some (.inr (.inl 6)) from rfl) rfl (inB_vp g_9) d_Model_set_86 ?_
    exact q_Model_set_87 K _ _ _ _ _ _ _ _ _ _  hw (lv_sub hl [1, 2, 3, 4, 0] rfl) hF
  · replace hF := ifN hF c_8
    refine lv_iload_n hx hb d_Model_set_77 rfl (lv_at hl 4 rfl) ?_
    refine lv_goto (tgt := 87) hx hb d_Model_set_78 (by decide) ?_
    exact q_Model_set_87 K _ _ _ _ _ _ _ _ _ _  hw (lv_sub hl [1, 2, 3, 4, 0] rfl) hF
noncomputable def F_Model_set_47 (s0 : St) (v1 : Int32) (v2 : Int32) (v3 : Int32) : Option (Int32 × St) := (if ¬ v2 = 0 then (if inB v1 6 = true then (F_Model_set_66 s0 v1 v2 v3 (s0.1 5 v1.toNatClampNeg)) else none) else (if inB v1 6 = true then (F_Model_set_66 s0 v1 v2 v3 (s0.1 4 v1.toNatClampNeg)) else none))
set_option maxHeartbeats 4000000 in
set_option maxRecDepth 100000 in
theorem q_Model_set_47 (K : Fx p s m args meth c b_Model_set 5 R_Model (some .int))  : ∀ (H : Heap) (locs : List Loc) (ls : Array Slot) (s0 : St) (v1 : Int32) (v2 : Int32) (v3 : Int32), Wh D cA ad shM A s s0 H locs → lv_has ls 5 [(0, .ref (ad 0)), (1, .int v1), (2, .int v2), (3, .int v3)] → F_Model_set_47 s0 v1 v2 v3 = (some (r, τ)) → W p l e rm_Model_set s m args below meth c H locs 0 0 (MQ below (QcI D cA ad shM A r τ) args s 0 0 A) (F0 m 47 ls []) := by
  have hx := K.1.1; have hb := K.1.2.1
  intro H locs ls s0 v1 v2 v3 hw hl hF
  unfold F_Model_set_47 at hF
  refine lv_iload_n hx hb d_Model_set_47 rfl (lv_at hl 2 rfl) ?_
  refine lv_if_ne (tgt := 60) hx hb d_Model_set_48 (by decide) (fun c_6 => ?_) (fun c_6 => ?_)
  · replace hF := ifT hF c_6
    refine lv_aload_n hx hb d_Model_set_60 rfl (lv_at hl 0 rfl) ?_
    refine r_get (v := .ref (ad 5)) K hw i_Model sh_Model rfl 5 (by decide) w_1030 rfl rfl rfl d_Model_set_61 ?_
    refine lv_iload_n hx hb d_Model_set_64 rfl (lv_at hl 1 rfl) ?_
    obtain ⟨g_7, hF⟩ := ifG hF
    refine r_iald (k := v1.toNatClampNeg) K hw (show shM[5]? = some (.inr (.inl 6)) from rfl) rfl (inB_vp g_7) d_Model_set_65 ?_
    exact q_Model_set_66 K _ _ _ _ _ _ _ _  hw (lv_sub hl [0, 1, 2, 3] rfl) hF
  · replace hF := ifN hF c_6
    refine lv_aload_n hx hb d_Model_set_51 rfl (lv_at hl 0 rfl) ?_
    refine r_get (v := .ref (ad 4)) K hw i_Model sh_Model rfl 4 (by decide) w_1029 rfl rfl rfl d_Model_set_52 ?_
    refine lv_iload_n hx hb d_Model_set_55 rfl (lv_at hl 1 rfl) ?_
    obtain ⟨g_16, hF⟩ := ifG hF
    refine r_iald (k := v1.toNatClampNeg) K hw (show shM[4]? = some (.inr (.inl 6)) from rfl) rfl (inB_vp g_16) d_Model_set_56 ?_
    refine lv_goto (tgt := 66) hx hb d_Model_set_57 (by decide) ?_
    exact q_Model_set_66 K _ _ _ _ _ _ _ _  hw (lv_sub hl [0, 1, 2, 3] rfl) hF
noncomputable def F_Model_set_0 (s0 : St) (v1 : Int32) (v2 : Int32) (v3 : Int32) : Option (Int32 × St) := (ob1 (F_Model_isArm s0 v1) (fun r_1 => (if ¬ r_1 = 0 then (if (F_Model_in v2 (0 : Int32) (1 : Int32)) = 0 then (some ((-7 : Int32), s0)) else (if ¬ v2 = 0 then (if ¬ (F_Model_isPlan v3) = 0 then (F_Model_set_47 s0 v1 v2 v3) else (some ((-7 : Int32), s0))) else (if ¬ (F_Model_in v3 (0 : Int32) (24 : Int32)) = 0 then (F_Model_set_47 s0 v1 v2 v3) else (some ((-7 : Int32), s0))))) else (some ((-5 : Int32), s0)))))
set_option maxHeartbeats 4000000 in
set_option maxRecDepth 100000 in
theorem q_Model_set_0 (K : Fx p s m args meth c b_Model_set 5 R_Model (some .int))  : ∀ (H : Heap) (locs : List Loc) (ls : Array Slot) (s0 : St) (v1 : Int32) (v2 : Int32) (v3 : Int32), Wh D cA ad shM A s s0 H locs → lv_has ls 5 [(0, .ref (ad 0)), (1, .int v1), (2, .int v2), (3, .int v3)] → F_Model_set_0 s0 v1 v2 v3 = (some (r, τ)) → W p l e rm_Model_set s m args below meth c H locs 0 0 (MQ below (QcI D cA ad shM A r τ) args s 0 0 A) (F0 m 0 ls []) := by
  have hx := K.1.1; have hb := K.1.2.1
  intro H locs ls s0 v1 v2 v3 hw hl hF
  unfold F_Model_set_0 at hF
  refine lv_aload_n hx hb d_Model_set_0 rfl (lv_at hl 0 rfl) ?_
  refine lv_iload_n hx hb d_Model_set_1 rfl (lv_at hl 1 rfl) ?_
  obtain ⟨r_1, h_r_1, hF⟩ := ob1E hF
  refine r_callVI (As := [.int v1]) (rest := []) K hw hl.1 (c_Model_isArm (l := l) (D := D) (cA := cA) (ad := ad) (s0 := s0)   h_r_1) sh_Model rfl (tb_gV w_1181 w_1183 w_39 w_80 w_1184) a_Model_isArm ⟨rfl, rfl, Nat.le_of_ble_eq_true rfl, Nat.le_of_ble_eq_true rfl⟩ rfl rfl (Nat.le_of_ble_eq_true rfl) d_Model_set_2 (fun H locs hw => ?_)
  refine lv_if_ne (tgt := 11) hx hb d_Model_set_5 (by decide) (fun c_2 => ?_) (fun c_2 => ?_)
  · replace hF := ifT hF c_2
    refine lv_iload_n hx hb d_Model_set_11 rfl (lv_at hl 2 rfl) ?_
    refine lv_iconst (v := 0) hx hb d_Model_set_12 (by decide) ?_
    refine lv_iconst (v := 1) hx hb d_Model_set_13 (by decide) ?_
    refine r_callSI (As := [.int v2, .int (0 : Int32), .int (1 : Int32)]) (rest := []) K hw hl.1 (c_Model_in (l := l) (D := D) (cA := cA) (ad := ad) (s0 := s0)   rfl) (tb_gS w_986 w_987 w_80 w_988) a_Model_in ⟨rfl, rfl, Nat.le_of_ble_eq_true rfl, Nat.le_of_ble_eq_true rfl⟩ rfl rfl (Nat.le_of_ble_eq_true rfl) d_Model_set_14 (fun H locs hw => ?_)
    refine lv_if_eq (tgt := 44) hx hb d_Model_set_17 (by decide) (fun c_3 => ?_) (fun c_3 => ?_)
    · replace hF := ifT hF c_3
      refine lv_bipush (v := -7) hx hb d_Model_set_44 (by decide) ?_
      obtain ⟨hF, hG⟩ := sE2 hF
      subst hF
      subst hG
      exact r_iret K hw d_Model_set_46
    · replace hF := ifF hF c_3
      refine lv_iload_n hx hb d_Model_set_20 rfl (lv_at hl 2 rfl) ?_
      refine lv_if_ne (tgt := 37) hx hb d_Model_set_21 (by decide) (fun c_4 => ?_) (fun c_4 => ?_)
      · replace hF := ifT hF c_4
        refine lv_iload_n hx hb d_Model_set_37 rfl (lv_at hl 3 rfl) ?_
        refine r_callSI (As := [.int v3]) (rest := []) K hw hl.1 (c_Model_isPlan (l := l) (D := D) (cA := cA) (ad := ad) (s0 := s0)   rfl) (tb_gS w_1207 w_1208 w_80 w_1209) a_Model_isPlan ⟨rfl, rfl, Nat.le_of_ble_eq_true rfl, Nat.le_of_ble_eq_true rfl⟩ rfl rfl (Nat.le_of_ble_eq_true rfl) d_Model_set_38 (fun H locs hw => ?_)
        refine lv_if_ne (tgt := 47) hx hb d_Model_set_41 (by decide) (fun c_5 => ?_) (fun c_5 => ?_)
        · replace hF := ifT hF c_5
          exact q_Model_set_47 K _ _ _ _ _ _ _  hw (lv_sub hl [0, 1, 2, 3] rfl) hF
        · replace hF := ifN hF c_5
          refine lv_bipush (v := -7) hx hb d_Model_set_44 (by decide) ?_
          obtain ⟨hF, hG⟩ := sE2 hF
          subst hF
          subst hG
          exact r_iret K hw d_Model_set_46
      · replace hF := ifN hF c_4
        refine lv_iload_n hx hb d_Model_set_24 rfl (lv_at hl 3 rfl) ?_
        refine lv_iconst (v := 0) hx hb d_Model_set_25 (by decide) ?_
        refine lv_bipush (v := 24) hx hb d_Model_set_26 (by decide) ?_
        refine r_callSI (As := [.int v3, .int (0 : Int32), .int (24 : Int32)]) (rest := []) K hw hl.1 (c_Model_in (l := l) (D := D) (cA := cA) (ad := ad) (s0 := s0)   rfl) (tb_gS w_986 w_987 w_80 w_988) a_Model_in ⟨rfl, rfl, Nat.le_of_ble_eq_true rfl, Nat.le_of_ble_eq_true rfl⟩ rfl rfl (Nat.le_of_ble_eq_true rfl) d_Model_set_28 (fun H locs hw => ?_)
        refine lv_if_ne (tgt := 47) hx hb d_Model_set_31 (by decide) (fun c_17 => ?_) (fun c_17 => ?_)
        · replace hF := ifT hF c_17
          exact q_Model_set_47 K _ _ _ _ _ _ _  hw (lv_sub hl [0, 1, 2, 3] rfl) hF
        · replace hF := ifN hF c_17
          refine lv_goto (tgt := 44) hx hb d_Model_set_34 (by decide) ?_
          refine lv_bipush (v := -7) hx hb d_Model_set_44 (by decide) ?_
          obtain ⟨hF, hG⟩ := sE2 hF
          subst hF
          subst hG
          exact r_iret K hw d_Model_set_46
  · replace hF := ifN hF c_2
    refine lv_bipush (v := -5) hx hb d_Model_set_8 (by decide) ?_
    obtain ⟨hF, hG⟩ := sE2 hF
    subst hF
    subst hG
    exact r_iret K hw d_Model_set_10
end S_Model_set
noncomputable abbrev F_Model_set := F_Model_set_0
theorem c_Model_set {l : Launch} {D : va_G} {cA : Nat → ClassId} {ad : Nat → Nat} {s0 τ : St} {r : Int32} {v1 : Int32} {v2 : Int32} {v3 : Int32}  (hF : F_Model_set s0 v1 v2 v3 = (some (r, τ))) : MI l D cA ad shM y_Model_set (wT y_Model_set b_Model_set 5 (some .int)) rm_Model_set [.ref (ad 0), .int v1, .int v2, .int v3] s0 r τ := fun sz => m_start (Qc := fun A => QcI D cA ad shM A r τ) (by decide +kernel) w_1206 (Nat.le_of_ble_eq_true rfl) (fun p e s m below meth c ls K hl hw => q_Model_set_0 K _ _ _ _ _ _ _  hw hl hF)

/-! Model.lateOf(I)I -/
abbrev b_Model_lateOf : ByteArray := prog_13_method_30_code
def y_Model_lateOf : MethodName := ⟨R_Model, "lateOf", "(I)I"⟩
theorem a_Model_lateOf : y_Model_lateOf.cls = R_Model ∧ y_Model_lateOf.cls ≠ "java/lang/invoke/MethodHandle" ∧ y_Model_lateOf.cls ≠ "java/lang/invoke/VarHandle" ∧ (parseMethodDescriptor y_Model_lateOf.desc).map (fun d => d.parameters.length) = some 1 := by decide +kernel
abbrev rm_Model_lateOf : Room := { frames := 1, cells := 0, slots := 0, locals := 22 }
theorem w_1217 : Cond.code y_Model_lateOf b_Model_lateOf 2 (some .int) ∈ TB := tb_in 1217 (by decide +kernel) (by decide +kernel)
theorem d_Model_lateOf_0 : decode b_Model_lateOf 0 = .ok (.aload_n 0, 1) := by decide +kernel
theorem d_Model_lateOf_1 : decode b_Model_lateOf 1 = .ok (.getfield 7, 3) := by decide +kernel
theorem d_Model_lateOf_4 : decode b_Model_lateOf 4 = .ok (.iload_n 1, 1) := by decide +kernel
theorem d_Model_lateOf_5 : decode b_Model_lateOf 5 = .ok (.iaload, 1) := by decide +kernel
theorem d_Model_lateOf_6 : decode b_Model_lateOf 6 = .ok (.iconst 2, 1) := by decide +kernel
theorem d_Model_lateOf_7 : decode b_Model_lateOf 7 = .ok (.if_icmp .eq 13, 3) := by decide +kernel
theorem d_Model_lateOf_10 : decode b_Model_lateOf 10 = .ok (.aload_n 0, 1) := by decide +kernel
theorem d_Model_lateOf_11 : decode b_Model_lateOf 11 = .ok (.getfield 7, 3) := by decide +kernel
theorem d_Model_lateOf_14 : decode b_Model_lateOf 14 = .ok (.iload_n 1, 1) := by decide +kernel
theorem d_Model_lateOf_15 : decode b_Model_lateOf 15 = .ok (.iaload, 1) := by decide +kernel
theorem d_Model_lateOf_16 : decode b_Model_lateOf 16 = .ok (.iconst 4, 1) := by decide +kernel
theorem d_Model_lateOf_17 : decode b_Model_lateOf 17 = .ok (.if_icmp .ne 21, 3) := by decide +kernel
theorem d_Model_lateOf_20 : decode b_Model_lateOf 20 = .ok (.iconst 1, 1) := by decide +kernel
theorem d_Model_lateOf_21 : decode b_Model_lateOf 21 = .ok (.aload_n 0, 1) := by decide +kernel
theorem d_Model_lateOf_22 : decode b_Model_lateOf 22 = .ok (.getfield 16, 3) := by decide +kernel
theorem d_Model_lateOf_25 : decode b_Model_lateOf 25 = .ok (.iload_n 1, 1) := by decide +kernel
theorem d_Model_lateOf_26 : decode b_Model_lateOf 26 = .ok (.iaload, 1) := by decide +kernel
theorem d_Model_lateOf_27 : decode b_Model_lateOf 27 = .ok (.iconst 5, 1) := by decide +kernel
theorem d_Model_lateOf_28 : decode b_Model_lateOf 28 = .ok (.idiv, 1) := by decide +kernel
theorem d_Model_lateOf_29 : decode b_Model_lateOf 29 = .ok (.isub, 1) := by decide +kernel
theorem d_Model_lateOf_30 : decode b_Model_lateOf 30 = .ok (.iconst 0, 1) := by decide +kernel
theorem d_Model_lateOf_31 : decode b_Model_lateOf 31 = .ok (.iconst 2, 1) := by decide +kernel
theorem d_Model_lateOf_32 : decode b_Model_lateOf 32 = .ok (.invokestatic 162, 3) := by decide +kernel
theorem d_Model_lateOf_35 : decode b_Model_lateOf 35 = .ok (.goto 4, 3) := by decide +kernel
theorem d_Model_lateOf_38 : decode b_Model_lateOf 38 = .ok (.iconst 2, 1) := by decide +kernel
theorem d_Model_lateOf_39 : decode b_Model_lateOf 39 = .ok (.ireturn, 1) := by decide +kernel
section S_Model_lateOf
variable {p : Program} {l : Launch} {e : Env} {s : State} {m : MethodId} {args : Array Value} {below : List Frame} {meth : Method} {c : Code} {D : va_G} {cA : Nat → ClassId} {ad : Nat → Nat} {nC : Nat} {A : Nat → Prop} {r : Int32} {τ : St}
noncomputable def F_Model_lateOf_20 (s0 : St) (v1 : Int32) : Option Int32 := (if inB v1 6 = true then (some (F_Model_within ((1 : Int32) - ((s0.1 3 v1.toNatClampNeg) / (5 : Int32))) (0 : Int32) (2 : Int32))) else none)
set_option maxHeartbeats 4000000 in
set_option maxRecDepth 100000 in
theorem q_Model_lateOf_20 (s0 : St) (K : Fx p s m args meth c b_Model_lateOf 2 R_Model (some .int))  : ∀ (H : Heap) (locs : List Loc) (ls : Array Slot) (v1 : Int32), Wh D cA ad shM A s s0 H locs → lv_has ls 2 [(0, .ref (ad 0)), (1, .int v1)] → F_Model_lateOf_20 s0 v1 = (some r) → W p l e rm_Model_lateOf s m args below meth c H locs 0 0 (MQ below (QcI D cA ad shM A r s0) args s 0 0 A) (F0 m 20 ls []) := by
  have hx := K.1.1; have hb := K.1.2.1
  intro H locs ls v1 hw hl hF
  unfold F_Model_lateOf_20 at hF
  refine lv_iconst (v := 1) hx hb d_Model_lateOf_20 (by decide) ?_
  refine lv_aload_n hx hb d_Model_lateOf_21 rfl (lv_at hl 0 rfl) ?_
  refine r_get (v := .ref (ad 3)) K hw i_Model sh_Model rfl 3 (by decide) w_1028 rfl rfl rfl d_Model_lateOf_22 ?_
  refine lv_iload_n hx hb d_Model_lateOf_25 rfl (lv_at hl 1 rfl) ?_
  obtain ⟨g_3, hF⟩ := ifG hF
  refine r_iald (k := v1.toNatClampNeg) K hw (show shM[3]? = some (.inr (.inl 6)) from rfl) rfl (inB_vp g_3) d_Model_lateOf_26 ?_
  refine lv_iconst (v := 5) hx hb d_Model_lateOf_27 (by decide) ?_
  refine lv_idiv hx hb d_Model_lateOf_28 (by decide) ?_
  refine lv_isub hx hb d_Model_lateOf_29 ?_
  refine lv_iconst (v := 0) hx hb d_Model_lateOf_30 (by decide) ?_
  refine lv_iconst (v := 2) hx hb d_Model_lateOf_31 (by decide) ?_
  refine r_callSI (As := [.int ((1 : Int32) - ((s0.1 3 v1.toNatClampNeg) / (5 : Int32))), .int (0 : Int32), .int (2 : Int32)]) (rest := []) K hw hl.1 (c_Model_within (l := l) (D := D) (cA := cA) (ad := ad) (s0 := s0)   rfl) (tb_gS w_1196 w_1197 w_80 w_1198) a_Model_within ⟨rfl, rfl, Nat.le_of_ble_eq_true rfl, Nat.le_of_ble_eq_true rfl⟩ rfl rfl (Nat.le_of_ble_eq_true rfl) d_Model_lateOf_32 (fun H locs hw => ?_)
  refine lv_goto (tgt := 39) hx hb d_Model_lateOf_35 (by decide) ?_
  replace hF := sE1 hF
  subst hF
  exact r_iret K hw d_Model_lateOf_39
noncomputable def F_Model_lateOf_0 (s0 : St) (v1 : Int32) : Option Int32 := (if inB v1 6 = true then (if (s0.1 1 v1.toNatClampNeg) = (2 : Int32) then (F_Model_lateOf_20 s0 v1) else (if inB v1 6 = true then (if ¬ (s0.1 1 v1.toNatClampNeg) = (4 : Int32) then (some (2 : Int32)) else (F_Model_lateOf_20 s0 v1)) else none)) else none)
set_option maxHeartbeats 4000000 in
set_option maxRecDepth 100000 in
theorem q_Model_lateOf_0 (s0 : St) (K : Fx p s m args meth c b_Model_lateOf 2 R_Model (some .int))  : ∀ (H : Heap) (locs : List Loc) (ls : Array Slot) (v1 : Int32), Wh D cA ad shM A s s0 H locs → lv_has ls 2 [(0, .ref (ad 0)), (1, .int v1)] → F_Model_lateOf_0 s0 v1 = (some r) → W p l e rm_Model_lateOf s m args below meth c H locs 0 0 (MQ below (QcI D cA ad shM A r s0) args s 0 0 A) (F0 m 0 ls []) := by
  have hx := K.1.1; have hb := K.1.2.1
  intro H locs ls v1 hw hl hF
  unfold F_Model_lateOf_0 at hF
  refine lv_aload_n hx hb d_Model_lateOf_0 rfl (lv_at hl 0 rfl) ?_
  refine r_get (v := .ref (ad 1)) K hw i_Model sh_Model rfl 1 (by decide) w_1026 rfl rfl rfl d_Model_lateOf_1 ?_
  refine lv_iload_n hx hb d_Model_lateOf_4 rfl (lv_at hl 1 rfl) ?_
  obtain ⟨g_1, hF⟩ := ifG hF
  refine r_iald (k := v1.toNatClampNeg) K hw (show shM[1]? = some (.inr (.inl 6)) from rfl) rfl (inB_vp g_1) d_Model_lateOf_5 ?_
  refine lv_iconst (v := 2) hx hb d_Model_lateOf_6 (by decide) ?_
  refine lv_icmp_eq (tgt := 20) hx hb d_Model_lateOf_7 (by decide) (fun c_2 => ?_) (fun c_2 => ?_)
  · replace hF := ifT hF c_2
    exact q_Model_lateOf_20 s0 K _ _ _ _  hw (lv_sub hl [0, 1] rfl) hF
  · replace hF := ifF hF c_2
    refine lv_aload_n hx hb d_Model_lateOf_10 rfl (lv_at hl 0 rfl) ?_
    refine r_get (v := .ref (ad 1)) K hw i_Model sh_Model rfl 1 (by decide) w_1026 rfl rfl rfl d_Model_lateOf_11 ?_
    refine lv_iload_n hx hb d_Model_lateOf_14 rfl (lv_at hl 1 rfl) ?_
    obtain ⟨g_4, hF⟩ := ifG hF
    refine r_iald (k := v1.toNatClampNeg) K hw (show shM[1]? = some (.inr (.inl 6)) from rfl) rfl (inB_vp g_4) d_Model_lateOf_15 ?_
    refine lv_iconst (v := 4) hx hb d_Model_lateOf_16 (by decide) ?_
    refine lv_icmp_ne (tgt := 38) hx hb d_Model_lateOf_17 (by decide) (fun c_5 => ?_) (fun c_5 => ?_)
    · replace hF := ifT hF c_5
      refine lv_iconst (v := 2) hx hb d_Model_lateOf_38 (by decide) ?_
      replace hF := sE1 hF
      subst hF
      exact r_iret K hw d_Model_lateOf_39
    · replace hF := ifN hF c_5
      exact q_Model_lateOf_20 s0 K _ _ _ _  hw (lv_sub hl [0, 1] rfl) hF
end S_Model_lateOf
noncomputable abbrev F_Model_lateOf := F_Model_lateOf_0
theorem c_Model_lateOf {l : Launch} {D : va_G} {cA : Nat → ClassId} {ad : Nat → Nat} {s0 : St} {r : Int32} {v1 : Int32}  (hF : F_Model_lateOf s0 v1 = (some r)) : MI l D cA ad shM y_Model_lateOf (wT y_Model_lateOf b_Model_lateOf 2 (some .int)) rm_Model_lateOf [.ref (ad 0), .int v1] s0 r s0 := fun sz => m_start (Qc := fun A => QcI D cA ad shM A r s0) (by decide +kernel) w_1217 (Nat.le_of_ble_eq_true rfl) (fun p e s m below meth c ls K hl hw => q_Model_lateOf_0 s0 K _ _ _ _  hw hl hF)

/-! Model.told(II)I -/
abbrev b_Model_told : ByteArray := prog_13_method_31_code
def y_Model_told : MethodName := ⟨R_Model, "told", "(II)I"⟩
theorem a_Model_told : y_Model_told.cls = R_Model ∧ y_Model_told.cls ≠ "java/lang/invoke/MethodHandle" ∧ y_Model_told.cls ≠ "java/lang/invoke/VarHandle" ∧ (parseMethodDescriptor y_Model_told.desc).map (fun d => d.parameters.length) = some 2 := by decide +kernel
abbrev rm_Model_told : Room := { frames := 2, cells := 0, slots := 0, locals := 43 }
theorem w_1214 : Cond.methodLink R_Model 172 y_Model_lateOf ∈ TB := tb_in 1214 (by decide +kernel) (by decide +kernel)
theorem w_1216 : Cond.instanceMethod y_Model_lateOf ∈ TB := tb_in 1216 (by decide +kernel) (by decide +kernel)
theorem w_42 : Cond.selects R_Model y_Model_lateOf y_Model_lateOf ∈ TB := tb_in 42 (by decide +kernel) (by decide +kernel)
theorem w_1213 : Cond.code y_Model_told b_Model_told 3 (some .int) ∈ TB := tb_in 1213 (by decide +kernel) (by decide +kernel)
theorem d_Model_told_0 : decode b_Model_told 0 = .ok (.aload_n 0, 1) := by decide +kernel
theorem d_Model_told_1 : decode b_Model_told 1 = .ok (.iload_n 1, 1) := by decide +kernel
theorem d_Model_told_2 : decode b_Model_told 2 = .ok (.invokevirtual 82, 3) := by decide +kernel
theorem d_Model_told_5 : decode b_Model_told 5 = .ok (.ifCond .ne 6, 3) := by decide +kernel
theorem d_Model_told_8 : decode b_Model_told 8 = .ok (.bipush (-5), 2) := by decide +kernel
theorem d_Model_told_10 : decode b_Model_told 10 = .ok (.ireturn, 1) := by decide +kernel
theorem d_Model_told_11 : decode b_Model_told 11 = .ok (.iload_n 2, 1) := by decide +kernel
theorem d_Model_told_12 : decode b_Model_told 12 = .ok (.tableswitch 81 0 5 #[40, 47, 54, 61, 68, 75], 40) := by decide +kernel
theorem d_Model_told_52 : decode b_Model_told 52 = .ok (.aload_n 0, 1) := by decide +kernel
theorem d_Model_told_53 : decode b_Model_told 53 = .ok (.getfield 19, 3) := by decide +kernel
theorem d_Model_told_56 : decode b_Model_told 56 = .ok (.iload_n 1, 1) := by decide +kernel
theorem d_Model_told_57 : decode b_Model_told 57 = .ok (.iaload, 1) := by decide +kernel
theorem d_Model_told_58 : decode b_Model_told 58 = .ok (.ireturn, 1) := by decide +kernel
theorem d_Model_told_59 : decode b_Model_told 59 = .ok (.aload_n 0, 1) := by decide +kernel
theorem d_Model_told_60 : decode b_Model_told 60 = .ok (.getfield 22, 3) := by decide +kernel
theorem d_Model_told_63 : decode b_Model_told 63 = .ok (.iload_n 1, 1) := by decide +kernel
theorem d_Model_told_64 : decode b_Model_told 64 = .ok (.iaload, 1) := by decide +kernel
theorem d_Model_told_65 : decode b_Model_told 65 = .ok (.ireturn, 1) := by decide +kernel
theorem d_Model_told_66 : decode b_Model_told 66 = .ok (.aload_n 0, 1) := by decide +kernel
theorem d_Model_told_67 : decode b_Model_told 67 = .ok (.getfield 7, 3) := by decide +kernel
theorem d_Model_told_70 : decode b_Model_told 70 = .ok (.iload_n 1, 1) := by decide +kernel
theorem d_Model_told_71 : decode b_Model_told 71 = .ok (.iaload, 1) := by decide +kernel
theorem d_Model_told_72 : decode b_Model_told 72 = .ok (.ireturn, 1) := by decide +kernel
theorem d_Model_told_73 : decode b_Model_told 73 = .ok (.aload_n 0, 1) := by decide +kernel
theorem d_Model_told_74 : decode b_Model_told 74 = .ok (.getfield 13, 3) := by decide +kernel
theorem d_Model_told_77 : decode b_Model_told 77 = .ok (.iload_n 1, 1) := by decide +kernel
theorem d_Model_told_78 : decode b_Model_told 78 = .ok (.iaload, 1) := by decide +kernel
theorem d_Model_told_79 : decode b_Model_told 79 = .ok (.ireturn, 1) := by decide +kernel
theorem d_Model_told_80 : decode b_Model_told 80 = .ok (.aload_n 0, 1) := by decide +kernel
theorem d_Model_told_81 : decode b_Model_told 81 = .ok (.getfield 16, 3) := by decide +kernel
theorem d_Model_told_84 : decode b_Model_told 84 = .ok (.iload_n 1, 1) := by decide +kernel
theorem d_Model_told_85 : decode b_Model_told 85 = .ok (.iaload, 1) := by decide +kernel
theorem d_Model_told_86 : decode b_Model_told 86 = .ok (.ireturn, 1) := by decide +kernel
theorem d_Model_told_87 : decode b_Model_told 87 = .ok (.aload_n 0, 1) := by decide +kernel
theorem d_Model_told_88 : decode b_Model_told 88 = .ok (.iload_n 1, 1) := by decide +kernel
theorem d_Model_told_89 : decode b_Model_told 89 = .ok (.invokevirtual 172, 3) := by decide +kernel
theorem d_Model_told_92 : decode b_Model_told 92 = .ok (.ireturn, 1) := by decide +kernel
theorem d_Model_told_93 : decode b_Model_told 93 = .ok (.bipush (-7), 2) := by decide +kernel
theorem d_Model_told_95 : decode b_Model_told 95 = .ok (.ireturn, 1) := by decide +kernel
section S_Model_told
variable {p : Program} {l : Launch} {e : Env} {s : State} {m : MethodId} {args : Array Value} {below : List Frame} {meth : Method} {c : Code} {D : va_G} {cA : Nat → ClassId} {ad : Nat → Nat} {nC : Nat} {A : Nat → Prop} {r : Int32} {τ : St}
noncomputable def F_Model_told_0 (s0 : St) (v1 : Int32) (v2 : Int32) : Option Int32 := (ob1 (F_Model_isArm s0 v1) (fun r_1 => (if ¬ r_1 = 0 then (if v2 = 0 then (if inB v1 6 = true then (some (s0.1 4 v1.toNatClampNeg)) else none) else (if v2 = 1 then (if inB v1 6 = true then (some (s0.1 5 v1.toNatClampNeg)) else none) else (if v2 = 2 then (if inB v1 6 = true then (some (s0.1 1 v1.toNatClampNeg)) else none) else (if v2 = 3 then (if inB v1 6 = true then (some (s0.1 2 v1.toNatClampNeg)) else none) else (if v2 = 4 then (if inB v1 6 = true then (some (s0.1 3 v1.toNatClampNeg)) else none) else (if v2 = 5 then (ob1 (F_Model_lateOf s0 v1) (fun r_14 => (some r_14))) else (some (-7 : Int32)))))))) else (some (-5 : Int32)))))
set_option maxHeartbeats 4000000 in
set_option maxRecDepth 100000 in
theorem q_Model_told_0 (s0 : St) (K : Fx p s m args meth c b_Model_told 3 R_Model (some .int))  : ∀ (H : Heap) (locs : List Loc) (ls : Array Slot) (v1 : Int32) (v2 : Int32), Wh D cA ad shM A s s0 H locs → lv_has ls 3 [(0, .ref (ad 0)), (1, .int v1), (2, .int v2)] → F_Model_told_0 s0 v1 v2 = (some r) → W p l e rm_Model_told s m args below meth c H locs 0 0 (MQ below (QcI D cA ad shM A r s0) args s 0 0 A) (F0 m 0 ls []) := by
  have hx := K.1.1; have hb := K.1.2.1
  intro H locs ls v1 v2 hw hl hF
  unfold F_Model_told_0 at hF
  refine lv_aload_n hx hb d_Model_told_0 rfl (lv_at hl 0 rfl) ?_
  refine lv_iload_n hx hb d_Model_told_1 rfl (lv_at hl 1 rfl) ?_
  obtain ⟨r_1, h_r_1, hF⟩ := ob1E hF
  refine r_callVI (As := [.int v1]) (rest := []) K hw hl.1 (c_Model_isArm (l := l) (D := D) (cA := cA) (ad := ad) (s0 := s0)   h_r_1) sh_Model rfl (tb_gV w_1181 w_1183 w_39 w_80 w_1184) a_Model_isArm ⟨rfl, rfl, Nat.le_of_ble_eq_true rfl, Nat.le_of_ble_eq_true rfl⟩ rfl rfl (Nat.le_of_ble_eq_true rfl) d_Model_told_2 (fun H locs hw => ?_)
  refine lv_if_ne (tgt := 11) hx hb d_Model_told_5 (by decide) (fun c_2 => ?_) (fun c_2 => ?_)
  · replace hF := ifT hF c_2
    refine lv_iload_n hx hb d_Model_told_11 rfl (lv_at hl 2 rfl) ?_
    by_cases c_3 : v2 = 0
    · replace hF := ifT hF c_3
      refine lv_tableIn (tgt := 52) hx hb d_Model_told_12 (by rw [c_3]; decide) (by rw [c_3]; decide) (by rw [c_3]; rfl) (by decide) ?_
      refine lv_aload_n hx hb d_Model_told_52 rfl (lv_at hl 0 rfl) ?_
      refine r_get (v := .ref (ad 4)) K hw i_Model sh_Model rfl 4 (by decide) w_1029 rfl rfl rfl d_Model_told_53 ?_
      refine lv_iload_n hx hb d_Model_told_56 rfl (lv_at hl 1 rfl) ?_
      obtain ⟨g_4, hF⟩ := ifG hF
      refine r_iald (k := v1.toNatClampNeg) K hw (show shM[4]? = some (.inr (.inl 6)) from rfl) rfl (inB_vp g_4) d_Model_told_57 ?_
      replace hF := sE1 hF
      subst hF
      exact r_iret K hw d_Model_told_58
    replace hF := ifF hF c_3
    by_cases c_5 : v2 = 1
    · replace hF := ifT hF c_5
      refine lv_tableIn (tgt := 59) hx hb d_Model_told_12 (by rw [c_5]; decide) (by rw [c_5]; decide) (by rw [c_5]; rfl) (by decide) ?_
      refine lv_aload_n hx hb d_Model_told_59 rfl (lv_at hl 0 rfl) ?_
      refine r_get (v := .ref (ad 5)) K hw i_Model sh_Model rfl 5 (by decide) w_1030 rfl rfl rfl d_Model_told_60 ?_
      refine lv_iload_n hx hb d_Model_told_63 rfl (lv_at hl 1 rfl) ?_
      obtain ⟨g_6, hF⟩ := ifG hF
      refine r_iald (k := v1.toNatClampNeg) K hw (show shM[5]? = some (.inr (.inl 6)) from rfl) rfl (inB_vp g_6) d_Model_told_64 ?_
      replace hF := sE1 hF
      subst hF
      exact r_iret K hw d_Model_told_65
    replace hF := ifF hF c_5
    by_cases c_7 : v2 = 2
    · replace hF := ifT hF c_7
      refine lv_tableIn (tgt := 66) hx hb d_Model_told_12 (by rw [c_7]; decide) (by rw [c_7]; decide) (by rw [c_7]; rfl) (by decide) ?_
      refine lv_aload_n hx hb d_Model_told_66 rfl (lv_at hl 0 rfl) ?_
      refine r_get (v := .ref (ad 1)) K hw i_Model sh_Model rfl 1 (by decide) w_1026 rfl rfl rfl d_Model_told_67 ?_
      refine lv_iload_n hx hb d_Model_told_70 rfl (lv_at hl 1 rfl) ?_
      obtain ⟨g_8, hF⟩ := ifG hF
      refine r_iald (k := v1.toNatClampNeg) K hw (show shM[1]? = some (.inr (.inl 6)) from rfl) rfl (inB_vp g_8) d_Model_told_71 ?_
      replace hF := sE1 hF
      subst hF
      exact r_iret K hw d_Model_told_72
    replace hF := ifF hF c_7
    by_cases c_9 : v2 = 3
    · replace hF := ifT hF c_9
      refine lv_tableIn (tgt := 73) hx hb d_Model_told_12 (by rw [c_9]; decide) (by rw [c_9]; decide) (by rw [c_9]; rfl) (by decide) ?_
      refine lv_aload_n hx hb d_Model_told_73 rfl (lv_at hl 0 rfl) ?_
      refine r_get (v := .ref (ad 2)) K hw i_Model sh_Model rfl 2 (by decide) w_1027 rfl rfl rfl d_Model_told_74 ?_
      refine lv_iload_n hx hb d_Model_told_77 rfl (lv_at hl 1 rfl) ?_
      obtain ⟨g_10, hF⟩ := ifG hF
      refine r_iald (k := v1.toNatClampNeg) K hw (show shM[2]? = some (.inr (.inl 6)) from rfl) rfl (inB_vp g_10) d_Model_told_78 ?_
      replace hF := sE1 hF
      subst hF
      exact r_iret K hw d_Model_told_79
    replace hF := ifF hF c_9
    by_cases c_11 : v2 = 4
    · replace hF := ifT hF c_11
      refine lv_tableIn (tgt := 80) hx hb d_Model_told_12 (by rw [c_11]; decide) (by rw [c_11]; decide) (by rw [c_11]; rfl) (by decide) ?_
      refine lv_aload_n hx hb d_Model_told_80 rfl (lv_at hl 0 rfl) ?_
      refine r_get (v := .ref (ad 3)) K hw i_Model sh_Model rfl 3 (by decide) w_1028 rfl rfl rfl d_Model_told_81 ?_
      refine lv_iload_n hx hb d_Model_told_84 rfl (lv_at hl 1 rfl) ?_
      obtain ⟨g_12, hF⟩ := ifG hF
      refine r_iald (k := v1.toNatClampNeg) K hw (show shM[3]? = some (.inr (.inl 6)) from rfl) rfl (inB_vp g_12) d_Model_told_85 ?_
      replace hF := sE1 hF
      subst hF
      exact r_iret K hw d_Model_told_86
    replace hF := ifF hF c_11
    by_cases c_13 : v2 = 5
    · replace hF := ifT hF c_13
      refine lv_tableIn (tgt := 87) hx hb d_Model_told_12 (by rw [c_13]; decide) (by rw [c_13]; decide) (by rw [c_13]; rfl) (by decide) ?_
      refine lv_aload_n hx hb d_Model_told_87 rfl (lv_at hl 0 rfl) ?_
      refine lv_iload_n hx hb d_Model_told_88 rfl (lv_at hl 1 rfl) ?_
      obtain ⟨r_14, h_r_14, hF⟩ := ob1E hF
      refine r_callVI (As := [.int v1]) (rest := []) K hw hl.1 (c_Model_lateOf (l := l) (D := D) (cA := cA) (ad := ad) (s0 := s0)   h_r_14) sh_Model rfl (tb_gV w_1214 w_1216 w_42 w_80 w_1217) a_Model_lateOf ⟨rfl, rfl, Nat.le_of_ble_eq_true rfl, Nat.le_of_ble_eq_true rfl⟩ rfl rfl (Nat.le_of_ble_eq_true rfl) d_Model_told_89 (fun H locs hw => ?_)
      replace hF := sE1 hF
      subst hF
      exact r_iret K hw d_Model_told_92
    replace hF := ifF hF c_13
    have nc_3 : ¬ (v2).toInt = 0 := lv_neT c_3 rfl
    have nc_5 : ¬ (v2).toInt = 1 := lv_neT c_5 rfl
    have nc_7 : ¬ (v2).toInt = 2 := lv_neT c_7 rfl
    have nc_9 : ¬ (v2).toInt = 3 := lv_neT c_9 rfl
    have nc_11 : ¬ (v2).toInt = 4 := lv_neT c_11 rfl
    have nc_13 : ¬ (v2).toInt = 5 := lv_neT c_13 rfl
    refine lv_tableOut (tgt := 93) hx hb d_Model_told_12 (by omega) (by decide) ?_
    refine lv_bipush (v := -7) hx hb d_Model_told_93 (by decide) ?_
    replace hF := sE1 hF
    subst hF
    exact r_iret K hw d_Model_told_95
  · replace hF := ifN hF c_2
    refine lv_bipush (v := -5) hx hb d_Model_told_8 (by decide) ?_
    replace hF := sE1 hF
    subst hF
    exact r_iret K hw d_Model_told_10
end S_Model_told
noncomputable abbrev F_Model_told := F_Model_told_0
theorem c_Model_told {l : Launch} {D : va_G} {cA : Nat → ClassId} {ad : Nat → Nat} {s0 : St} {r : Int32} {v1 : Int32} {v2 : Int32}  (hF : F_Model_told s0 v1 v2 = (some r)) : MI l D cA ad shM y_Model_told (wT y_Model_told b_Model_told 3 (some .int)) rm_Model_told [.ref (ad 0), .int v1, .int v2] s0 r s0 := fun sz => m_start (Qc := fun A => QcI D cA ad shM A r s0) (by decide +kernel) w_1213 (Nat.le_of_ble_eq_true rfl) (fun p e s m below meth c ls K hl hw => q_Model_told_0 s0 K _ _ _ _ _  hw hl hF)
