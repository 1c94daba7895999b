/-! Model.forceOf(IIIII)I -/
abbrev b_Model_forceOf : ByteArray := prog_13_method_32_code
def y_Model_forceOf : MethodName := ⟨R_Model, "forceOf", "(IIIII)I"⟩
theorem a_Model_forceOf : y_Model_forceOf.cls = R_Model ∧ y_Model_forceOf.cls ≠ "java/lang/invoke/MethodHandle" ∧ y_Model_forceOf.cls ≠ "java/lang/invoke/VarHandle" ∧ (parseMethodDescriptor y_Model_forceOf.desc).map (fun d => d.parameters.length) = some 5 := by decide +kernel
abbrev rm_Model_forceOf : Room := { frames := 3, cells := 0, slots := 0, locals := 72 }
theorem w_1248 : Cond.code y_Model_forceOf b_Model_forceOf 10 (some .int) ∈ TB := tb_in 1248 (by decide +kernel) (by decide +kernel)
theorem d_Model_forceOf_0 : decode b_Model_forceOf 0 = .ok (.aload_n 0, 1) := by decide +kernel
theorem d_Model_forceOf_1 : decode b_Model_forceOf 1 = .ok (.iconst 0, 1) := by decide +kernel
theorem d_Model_forceOf_2 : decode b_Model_forceOf 2 = .ok (.iload_n 1, 1) := by decide +kernel
theorem d_Model_forceOf_3 : decode b_Model_forceOf 3 = .ok (.iload_n 2, 1) := by decide +kernel
theorem d_Model_forceOf_4 : decode b_Model_forceOf 4 = .ok (.iload_n 3, 1) := by decide +kernel
theorem d_Model_forceOf_5 : decode b_Model_forceOf 5 = .ok (.iload 4, 2) := by decide +kernel
theorem d_Model_forceOf_7 : decode b_Model_forceOf 7 = .ok (.iload 5, 2) := by decide +kernel
theorem d_Model_forceOf_9 : decode b_Model_forceOf 9 = .ok (.invokevirtual 165, 3) := by decide +kernel
theorem d_Model_forceOf_12 : decode b_Model_forceOf 12 = .ok (.istore 6, 2) := by decide +kernel
theorem d_Model_forceOf_14 : decode b_Model_forceOf 14 = .ok (.aload_n 0, 1) := by decide +kernel
theorem d_Model_forceOf_15 : decode b_Model_forceOf 15 = .ok (.getfield 7, 3) := by decide +kernel
theorem d_Model_forceOf_18 : decode b_Model_forceOf 18 = .ok (.iload_n 1, 1) := by decide +kernel
theorem d_Model_forceOf_19 : decode b_Model_forceOf 19 = .ok (.iaload, 1) := by decide +kernel
theorem d_Model_forceOf_20 : decode b_Model_forceOf 20 = .ok (.istore 7, 2) := by decide +kernel
theorem d_Model_forceOf_22 : decode b_Model_forceOf 22 = .ok (.iload_n 2, 1) := by decide +kernel
theorem d_Model_forceOf_23 : decode b_Model_forceOf 23 = .ok (.bipush 12, 2) := by decide +kernel
theorem d_Model_forceOf_25 : decode b_Model_forceOf 25 = .ok (.if_icmp .le 17, 3) := by decide +kernel
theorem d_Model_forceOf_28 : decode b_Model_forceOf 28 = .ok (.iload 6, 2) := by decide +kernel
theorem d_Model_forceOf_30 : decode b_Model_forceOf 30 = .ok (.iconst 2, 1) := by decide +kernel
theorem d_Model_forceOf_31 : decode b_Model_forceOf 31 = .ok (.aload_n 0, 1) := by decide +kernel
theorem d_Model_forceOf_32 : decode b_Model_forceOf 32 = .ok (.getfield 16, 3) := by decide +kernel
theorem d_Model_forceOf_35 : decode b_Model_forceOf 35 = .ok (.iload_n 1, 1) := by decide +kernel
theorem d_Model_forceOf_36 : decode b_Model_forceOf 36 = .ok (.iaload, 1) := by decide +kernel
theorem d_Model_forceOf_37 : decode b_Model_forceOf 37 = .ok (.imul, 1) := by decide +kernel
theorem d_Model_forceOf_38 : decode b_Model_forceOf 38 = .ok (.iadd, 1) := by decide +kernel
theorem d_Model_forceOf_39 : decode b_Model_forceOf 39 = .ok (.goto 5, 3) := by decide +kernel
theorem d_Model_forceOf_42 : decode b_Model_forceOf 42 = .ok (.iload 6, 2) := by decide +kernel
theorem d_Model_forceOf_44 : decode b_Model_forceOf 44 = .ok (.istore 8, 2) := by decide +kernel
theorem d_Model_forceOf_46 : decode b_Model_forceOf 46 = .ok (.iload 7, 2) := by decide +kernel
theorem d_Model_forceOf_48 : decode b_Model_forceOf 48 = .ok (.iconst 1, 1) := by decide +kernel
theorem d_Model_forceOf_49 : decode b_Model_forceOf 49 = .ok (.if_icmp .eq 9, 3) := by decide +kernel
theorem d_Model_forceOf_52 : decode b_Model_forceOf 52 = .ok (.iload 7, 2) := by decide +kernel
theorem d_Model_forceOf_54 : decode b_Model_forceOf 54 = .ok (.iconst 3, 1) := by decide +kernel
theorem d_Model_forceOf_55 : decode b_Model_forceOf 55 = .ok (.if_icmp .ne 8, 3) := by decide +kernel
theorem d_Model_forceOf_58 : decode b_Model_forceOf 58 = .ok (.iload 8, 2) := by decide +kernel
theorem d_Model_forceOf_60 : decode b_Model_forceOf 60 = .ok (.goto 5, 3) := by decide +kernel
theorem d_Model_forceOf_63 : decode b_Model_forceOf 63 = .ok (.iload 6, 2) := by decide +kernel
theorem d_Model_forceOf_65 : decode b_Model_forceOf 65 = .ok (.istore 9, 2) := by decide +kernel
theorem d_Model_forceOf_67 : decode b_Model_forceOf 67 = .ok (.iload 9, 2) := by decide +kernel
theorem d_Model_forceOf_69 : decode b_Model_forceOf 69 = .ok (.iload 7, 2) := by decide +kernel
theorem d_Model_forceOf_71 : decode b_Model_forceOf 71 = .ok (.iconst 3, 1) := by decide +kernel
theorem d_Model_forceOf_72 : decode b_Model_forceOf 72 = .ok (.if_icmp .ne 15, 3) := by decide +kernel
theorem d_Model_forceOf_75 : decode b_Model_forceOf 75 = .ok (.iload 4, 2) := by decide +kernel
theorem d_Model_forceOf_77 : decode b_Model_forceOf 77 = .ok (.ifCond .le 10, 3) := by decide +kernel
theorem d_Model_forceOf_80 : decode b_Model_forceOf 80 = .ok (.iload 4, 2) := by decide +kernel
theorem d_Model_forceOf_82 : decode b_Model_forceOf 82 = .ok (.iconst 3, 1) := by decide +kernel
theorem d_Model_forceOf_83 : decode b_Model_forceOf 83 = .ok (.idiv, 1) := by decide +kernel
theorem d_Model_forceOf_84 : decode b_Model_forceOf 84 = .ok (.goto 4, 3) := by decide +kernel
theorem d_Model_forceOf_87 : decode b_Model_forceOf 87 = .ok (.iconst 0, 1) := by decide +kernel
theorem d_Model_forceOf_88 : decode b_Model_forceOf 88 = .ok (.iadd, 1) := by decide +kernel
theorem d_Model_forceOf_89 : decode b_Model_forceOf 89 = .ok (.istore 9, 2) := by decide +kernel
theorem d_Model_forceOf_91 : decode b_Model_forceOf 91 = .ok (.iload 9, 2) := by decide +kernel
theorem d_Model_forceOf_93 : decode b_Model_forceOf 93 = .ok (.iload 7, 2) := by decide +kernel
theorem d_Model_forceOf_95 : decode b_Model_forceOf 95 = .ok (.iconst 4, 1) := by decide +kernel
theorem d_Model_forceOf_96 : decode b_Model_forceOf 96 = .ok (.if_icmp .ne 16, 3) := by decide +kernel
theorem d_Model_forceOf_99 : decode b_Model_forceOf 99 = .ok (.iload 4, 2) := by decide +kernel
theorem d_Model_forceOf_101 : decode b_Model_forceOf 101 = .ok (.ifCond .ge 11, 3) := by decide +kernel
theorem d_Model_forceOf_104 : decode b_Model_forceOf 104 = .ok (.iload 4, 2) := by decide +kernel
theorem d_Model_forceOf_106 : decode b_Model_forceOf 106 = .ok (.ineg, 1) := by decide +kernel
theorem d_Model_forceOf_107 : decode b_Model_forceOf 107 = .ok (.iconst 2, 1) := by decide +kernel
theorem d_Model_forceOf_108 : decode b_Model_forceOf 108 = .ok (.idiv, 1) := by decide +kernel
theorem d_Model_forceOf_109 : decode b_Model_forceOf 109 = .ok (.goto 4, 3) := by decide +kernel
theorem d_Model_forceOf_112 : decode b_Model_forceOf 112 = .ok (.iconst 0, 1) := by decide +kernel
theorem d_Model_forceOf_113 : decode b_Model_forceOf 113 = .ok (.iadd, 1) := by decide +kernel
theorem d_Model_forceOf_114 : decode b_Model_forceOf 114 = .ok (.istore 9, 2) := by decide +kernel
theorem d_Model_forceOf_116 : decode b_Model_forceOf 116 = .ok (.iload 7, 2) := by decide +kernel
theorem d_Model_forceOf_118 : decode b_Model_forceOf 118 = .ok (.iconst 5, 1) := by decide +kernel
theorem d_Model_forceOf_119 : decode b_Model_forceOf 119 = .ok (.if_icmp .ne 31, 3) := by decide +kernel
theorem d_Model_forceOf_122 : decode b_Model_forceOf 122 = .ok (.iload 4, 2) := by decide +kernel
theorem d_Model_forceOf_124 : decode b_Model_forceOf 124 = .ok (.bipush (-2), 2) := by decide +kernel
theorem d_Model_forceOf_126 : decode b_Model_forceOf 126 = .ok (.aload_n 0, 1) := by decide +kernel
theorem d_Model_forceOf_127 : decode b_Model_forceOf 127 = .ok (.getfield 16, 3) := by decide +kernel
theorem d_Model_forceOf_130 : decode b_Model_forceOf 130 = .ok (.iload_n 1, 1) := by decide +kernel
theorem d_Model_forceOf_131 : decode b_Model_forceOf 131 = .ok (.iaload, 1) := by decide +kernel
theorem d_Model_forceOf_132 : decode b_Model_forceOf 132 = .ok (.imul, 1) := by decide +kernel
theorem d_Model_forceOf_133 : decode b_Model_forceOf 133 = .ok (.if_icmp .ge 10, 3) := by decide +kernel
theorem d_Model_forceOf_136 : decode b_Model_forceOf 136 = .ok (.iload 6, 2) := by decide +kernel
theorem d_Model_forceOf_138 : decode b_Model_forceOf 138 = .ok (.iconst 2, 1) := by decide +kernel
theorem d_Model_forceOf_139 : decode b_Model_forceOf 139 = .ok (.idiv, 1) := by decide +kernel
theorem d_Model_forceOf_140 : decode b_Model_forceOf 140 = .ok (.goto 12, 3) := by decide +kernel
theorem d_Model_forceOf_143 : decode b_Model_forceOf 143 = .ok (.iload 6, 2) := by decide +kernel
theorem d_Model_forceOf_145 : decode b_Model_forceOf 145 = .ok (.iconst 5, 1) := by decide +kernel
theorem d_Model_forceOf_146 : decode b_Model_forceOf 146 = .ok (.iadd, 1) := by decide +kernel
theorem d_Model_forceOf_147 : decode b_Model_forceOf 147 = .ok (.goto 5, 3) := by decide +kernel
theorem d_Model_forceOf_150 : decode b_Model_forceOf 150 = .ok (.iload 9, 2) := by decide +kernel
theorem d_Model_forceOf_152 : decode b_Model_forceOf 152 = .ok (.istore 9, 2) := by decide +kernel
theorem d_Model_forceOf_154 : decode b_Model_forceOf 154 = .ok (.iload 9, 2) := by decide +kernel
theorem d_Model_forceOf_156 : decode b_Model_forceOf 156 = .ok (.iconst 0, 1) := by decide +kernel
theorem d_Model_forceOf_157 : decode b_Model_forceOf 157 = .ok (.sipush 400, 3) := by decide +kernel
theorem d_Model_forceOf_160 : decode b_Model_forceOf 160 = .ok (.invokestatic 162, 3) := by decide +kernel
theorem d_Model_forceOf_163 : decode b_Model_forceOf 163 = .ok (.ireturn, 1) := by decide +kernel
section S_Model_forceOf
variable {p : Program} {l : Launch} {e : Env} {s : State} {m : MethodId} {args : Array Value} {below : List Frame} {meth : Method} {c : Code} {D : va_G} {cA : Nat → ClassId} {ad : Nat → Nat} {nC : Nat} {A : Nat → Prop} {r : Int32} {τ : St}
noncomputable def F_Model_forceOf_152 (s0 : St) (t0 : Int32) : Option (Int32 × St) := (some ((F_Model_within t0 (0 : Int32) (400 : Int32)), s0))
set_option maxHeartbeats 4000000 in
set_option maxRecDepth 100000 in
theorem q_Model_forceOf_152 (K : Fx p s m args meth c b_Model_forceOf 10 R_Model (some .int))  : ∀ (H : Heap) (locs : List Loc) (ls : Array Slot) (s0 : St) (t0 : Int32), Wh D cA ad shM A s s0 H locs → lv_has ls 10 [] → F_Model_forceOf_152 s0 t0 = (some (r, τ)) → W p l e rm_Model_forceOf s m args below meth c H locs 0 0 (MQ below (QcI D cA ad shM A r τ) args s 0 0 A) (F0 m 152 ls [.int t0]) := by
  have hx := K.1.1; have hb := K.1.2.1
  intro H locs ls s0 t0 hw hl hF
  unfold F_Model_forceOf_152 at hF
  refine lv_istore (lv' := [(9, .int t0)]) hx hb d_Model_forceOf_152 hl (by decide) rfl (fun ls hl => ?_)
  refine lv_iload hx hb d_Model_forceOf_154 (lv_at hl 0 rfl) ?_
  refine lv_iconst (v := 0) hx hb d_Model_forceOf_156 (by decide) ?_
  refine lv_sipush (v := 400) hx hb d_Model_forceOf_157 (by decide) ?_
  refine r_callSI (As := [.int t0, .int (0 : Int32), .int (400 : Int32)]) (rest := []) K hw hl.1 (c_Model_within (l := l) (D := D) (cA := cA) (ad := ad) (s0 := s0)   rfl) (tb_gS w_1196 w_1197 w_80 w_1198) a_Model_within ⟨rfl, rfl, Nat.le_of_ble_eq_true rfl, Nat.le_of_ble_eq_true rfl⟩ rfl rfl (Nat.le_of_ble_eq_true rfl) d_Model_forceOf_160 (fun H locs hw => ?_)
  obtain ⟨hF, hG⟩ := sE2 hF
  subst hF
  subst hG
  exact r_iret K hw d_Model_forceOf_163
noncomputable def F_Model_forceOf_113 (s0 : St) (v1 : Int32) (v4 : Int32) (v6 : Int32) (v7 : Int32) (t0 : Int32) (t1 : Int32) : Option (Int32 × St) := (if ¬ v7 = (5 : Int32) then (F_Model_forceOf_152 s0 (t0 + t1)) else (if inB v1 6 = true then (if ((-2 : Int32) * (s0.1 3 v1.toNatClampNeg)) ≤ v4 then (F_Model_forceOf_152 s0 (v6 + (5 : Int32))) else (F_Model_forceOf_152 s0 (v6 / (2 : Int32)))) else none))
set_option maxHeartbeats 4000000 in
set_option maxRecDepth 100000 in
theorem q_Model_forceOf_113 (K : Fx p s m args meth c b_Model_forceOf 10 R_Model (some .int))  : ∀ (H : Heap) (locs : List Loc) (ls : Array Slot) (s0 : St) (v1 : Int32) (v4 : Int32) (v6 : Int32) (v7 : Int32) (t0 : Int32) (t1 : Int32), Wh D cA ad shM A s s0 H locs → lv_has ls 10 [(0, .ref (ad 0)), (1, .int v1), (4, .int v4), (6, .int v6), (7, .int v7)] → F_Model_forceOf_113 s0 v1 v4 v6 v7 t0 t1 = (some (r, τ)) → W p l e rm_Model_forceOf s m args below meth c H locs 0 0 (MQ below (QcI D cA ad shM A r τ) args s 0 0 A) (F0 m 113 ls [.int t1, .int t0]) := by
  have hx := K.1.1; have hb := K.1.2.1
  intro H locs ls s0 v1 v4 v6 v7 t0 t1 hw hl hF
  unfold F_Model_forceOf_113 at hF
  refine lv_iadd hx hb d_Model_forceOf_113 ?_
  refine lv_istore (lv' := [(9, .int (t0 + t1)), (0, .ref (ad 0)), (1, .int v1), (4, .int v4), (6, .int v6), (7, .int v7)]) hx hb d_Model_forceOf_114 hl (by decide) rfl (fun ls hl => ?_)
  refine lv_iload hx hb d_Model_forceOf_116 (lv_at hl 5 rfl) ?_
  refine lv_iconst (v := 5) hx hb d_Model_forceOf_118 (by decide) ?_
  refine lv_icmp_ne (tgt := 150) hx hb d_Model_forceOf_119 (by decide) (fun c_8 => ?_) (fun c_8 => ?_)
  · replace hF := ifT hF c_8
    refine lv_iload hx hb d_Model_forceOf_150 (lv_at hl 0 rfl) ?_
    exact q_Model_forceOf_152 K _ _ _ _ _  hw (lv_sub hl [] rfl) hF
  · replace hF := ifN hF c_8
    refine lv_iload hx hb d_Model_forceOf_122 (lv_at hl 3 rfl) ?_
    refine lv_bipush (v := -2) hx hb d_Model_forceOf_124 (by decide) ?_
    refine lv_aload_n hx hb d_Model_forceOf_126 rfl (lv_at hl 1 rfl) ?_
    refine r_get (v := .ref (ad 3)) K hw i_Model sh_Model rfl 3 (by decide) w_1028 rfl rfl rfl d_Model_forceOf_127 ?_
    refine lv_iload_n hx hb d_Model_forceOf_130 rfl (lv_at hl 2 rfl) ?_
    obtain ⟨g_9, hF⟩ := ifG hF
    refine r_iald (k := v1.toNatClampNeg) K hw (show shM[3]? = some (.inr (.inl 6)) from rfl) rfl (inB_vp g_9) d_Model_forceOf_131 ?_
    refine lv_imul hx hb d_Model_forceOf_132 ?_
    refine lv_icmp_ge (tgt := 143) hx hb d_Model_forceOf_133 (by decide) (fun c_10 => ?_) (fun c_10 => ?_)
    · replace hF := ifT hF c_10
      refine lv_iload hx hb d_Model_forceOf_143 (lv_at hl 4 rfl) ?_
      refine lv_iconst (v := 5) hx hb d_Model_forceOf_145 (by decide) ?_
      refine lv_iadd hx hb d_Model_forceOf_146 ?_
      refine lv_goto (tgt := 152) hx hb d_Model_forceOf_147 (by decide) ?_
      exact q_Model_forceOf_152 K _ _ _ _ _  hw (lv_sub hl [] rfl) hF
    · replace hF := ifF hF c_10
      refine lv_iload hx hb d_Model_forceOf_136 (lv_at hl 4 rfl) ?_
      refine lv_iconst (v := 2) hx hb d_Model_forceOf_138 (by decide) ?_
      refine lv_idiv hx hb d_Model_forceOf_139 (by decide) ?_
      refine lv_goto (tgt := 152) hx hb d_Model_forceOf_140 (by decide) ?_
      exact q_Model_forceOf_152 K _ _ _ _ _  hw (lv_sub hl [] rfl) hF
noncomputable def F_Model_forceOf_112 (s0 : St) (v1 : Int32) (v4 : Int32) (v6 : Int32) (v7 : Int32) (t0 : Int32) : Option (Int32 × St) := (F_Model_forceOf_113 s0 v1 v4 v6 v7 t0 (0 : Int32))
set_option maxHeartbeats 4000000 in
set_option maxRecDepth 100000 in
theorem q_Model_forceOf_112 (K : Fx p s m args meth c b_Model_forceOf 10 R_Model (some .int))  : ∀ (H : Heap) (locs : List Loc) (ls : Array Slot) (s0 : St) (v1 : Int32) (v4 : Int32) (v6 : Int32) (v7 : Int32) (t0 : Int32), Wh D cA ad shM A s s0 H locs → lv_has ls 10 [(0, .ref (ad 0)), (1, .int v1), (4, .int v4), (6, .int v6), (7, .int v7)] → F_Model_forceOf_112 s0 v1 v4 v6 v7 t0 = (some (r, τ)) → W p l e rm_Model_forceOf s m args below meth c H locs 0 0 (MQ below (QcI D cA ad shM A r τ) args s 0 0 A) (F0 m 112 ls [.int t0]) := by
  have hx := K.1.1; have hb := K.1.2.1
  intro H locs ls s0 v1 v4 v6 v7 t0 hw hl hF
  unfold F_Model_forceOf_112 at hF
  refine lv_iconst (v := 0) hx hb d_Model_forceOf_112 (by decide) ?_
  exact q_Model_forceOf_113 K _ _ _ _ _ _ _ _ _ _  hw (lv_sub hl [0, 1, 2, 3, 4] rfl) hF
noncomputable def F_Model_forceOf_88 (s0 : St) (v1 : Int32) (v4 : Int32) (v6 : Int32) (v7 : Int32) (t0 : Int32) (t1 : Int32) : Option (Int32 × St) := (if ¬ v7 = (4 : Int32) then (F_Model_forceOf_112 s0 v1 v4 v6 v7 (t0 + t1)) else (if 0 ≤ v4 then (F_Model_forceOf_112 s0 v1 v4 v6 v7 (t0 + t1)) else (F_Model_forceOf_113 s0 v1 v4 v6 v7 (t0 + t1) ((-v4) / (2 : Int32)))))
set_option maxHeartbeats 4000000 in
set_option maxRecDepth 100000 in
theorem q_Model_forceOf_88 (K : Fx p s m args meth c b_Model_forceOf 10 R_Model (some .int))  : ∀ (H : Heap) (locs : List Loc) (ls : Array Slot) (s0 : St) (v1 : Int32) (v4 : Int32) (v6 : Int32) (v7 : Int32) (t0 : Int32) (t1 : Int32), Wh D cA ad shM A s s0 H locs → lv_has ls 10 [(0, .ref (ad 0)), (1, .int v1), (4, .int v4), (6, .int v6), (7, .int v7)] → F_Model_forceOf_88 s0 v1 v4 v6 v7 t0 t1 = (some (r, τ)) → W p l e rm_Model_forceOf s m args below meth c H locs 0 0 (MQ below (QcI D cA ad shM A r τ) args s 0 0 A) (F0 m 88 ls [.int t1, .int t0]) := by
  have hx := K.1.1; have hb := K.1.2.1
  intro H locs ls s0 v1 v4 v6 v7 t0 t1 hw hl hF
  unfold F_Model_forceOf_88 at hF
  refine lv_iadd hx hb d_Model_forceOf_88 ?_
  refine lv_istore (lv' := [(9, .int (t0 + t1)), (0, .ref (ad 0)), (1, .int v1), (4, .int v4), (6, .int v6), (7, .int v7)]) hx hb d_Model_forceOf_89 hl (by decide) rfl (fun ls hl => ?_)
  refine lv_iload hx hb d_Model_forceOf_91 (lv_at hl 0 rfl) ?_
  refine lv_iload hx hb d_Model_forceOf_93 (lv_at hl 5 rfl) ?_
  refine lv_iconst (v := 4) hx hb d_Model_forceOf_95 (by decide) ?_
  refine lv_icmp_ne (tgt := 112) hx hb d_Model_forceOf_96 (by decide) (fun c_7 => ?_) (fun c_7 => ?_)
  · replace hF := ifT hF c_7
    exact q_Model_forceOf_112 K _ _ _ _ _ _ _ _ _  hw (lv_sub hl [1, 2, 3, 4, 5] rfl) hF
  · replace hF := ifN hF c_7
    refine lv_iload hx hb d_Model_forceOf_99 (lv_at hl 3 rfl) ?_
    refine lv_if_ge (tgt := 112) hx hb d_Model_forceOf_101 (by decide) (fun c_11 => ?_) (fun c_11 => ?_)
    · replace hF := ifT hF c_11
      exact q_Model_forceOf_112 K _ _ _ _ _ _ _ _ _  hw (lv_sub hl [1, 2, 3, 4, 5] rfl) hF
    · replace hF := ifF hF c_11
      refine lv_iload hx hb d_Model_forceOf_104 (lv_at hl 3 rfl) ?_
      refine lv_ineg hx hb d_Model_forceOf_106 ?_
      refine lv_iconst (v := 2) hx hb d_Model_forceOf_107 (by decide) ?_
      refine lv_idiv hx hb d_Model_forceOf_108 (by decide) ?_
      refine lv_goto (tgt := 113) hx hb d_Model_forceOf_109 (by decide) ?_
      exact q_Model_forceOf_113 K _ _ _ _ _ _ _ _ _ _  hw (lv_sub hl [1, 2, 3, 4, 5] rfl) hF
noncomputable def F_Model_forceOf_87 (s0 : St) (v1 : Int32) (v4 : Int32) (v6 : Int32) (v7 : Int32) (t0 : Int32) : Option (Int32 × St) := (F_Model_forceOf_88 s0 v1 v4 v6 v7 t0 (0 : Int32))
set_option maxHeartbeats 4000000 in
set_option maxRecDepth 100000 in
theorem q_Model_forceOf_87 (K : Fx p s m args meth c b_Model_forceOf 10 R_Model (some .int))  : ∀ (H : Heap) (locs : List Loc) (ls : Array Slot) (s0 : St) (v1 : Int32) (v4 : Int32) (v6 : Int32) (v7 : Int32) (t0 : Int32), Wh D cA ad shM A s s0 H locs → lv_has ls 10 [(0, .ref (ad 0)), (1, .int v1), (4, .int v4), (6, .int v6), (7, .int v7)] → F_Model_forceOf_87 s0 v1 v4 v6 v7 t0 = (some (r, τ)) → W p l e rm_Model_forceOf s m args below meth c H locs 0 0 (MQ below (QcI D cA ad shM A r τ) args s 0 0 A) (F0 m 87 ls [.int t0]) := by
  have hx := K.1.1; have hb := K.1.2.1
  intro H locs ls s0 v1 v4 v6 v7 t0 hw hl hF
  unfold F_Model_forceOf_87 at hF
  refine lv_iconst (v := 0) hx hb d_Model_forceOf_87 (by decide) ?_
  exact q_Model_forceOf_88 K _ _ _ _ _ _ _ _ _ _  hw (lv_sub hl [0, 1, 2, 3, 4] rfl) hF
noncomputable def F_Model_forceOf_65 (s0 : St) (v1 : Int32) (v4 : Int32) (v6 : Int32) (v7 : Int32) (t0 : Int32) : Option (Int32 × St) := (if ¬ v7 = (3 : Int32) then (F_Model_forceOf_87 s0 v1 v4 v6 v7 t0) else (if v4 ≤ 0 then (F_Model_forceOf_87 s0 v1 v4 v6 v7 t0) else (F_Model_forceOf_88 s0 v1 v4 v6 v7 t0 (v4 / (3 : Int32)))))
set_option maxHeartbeats 4000000 in
set_option maxRecDepth 100000 in
theorem q_Model_forceOf_65 (K : Fx p s m args meth c b_Model_forceOf 10 R_Model (some .int))  : ∀ (H : Heap) (locs : List Loc) (ls : Array Slot) (s0 : St) (v1 : Int32) (v4 : Int32) (v6 : Int32) (v7 : Int32) (t0 : Int32), Wh D cA ad shM A s s0 H locs → lv_has ls 10 [(0, .ref (ad 0)), (1, .int v1), (4, .int v4), (6, .int v6), (7, .int v7)] → F_Model_forceOf_65 s0 v1 v4 v6 v7 t0 = (some (r, τ)) → W p l e rm_Model_forceOf s m args below meth c H locs 0 0 (MQ below (QcI D cA ad shM A r τ) args s 0 0 A) (F0 m 65 ls [.int t0]) := by
  have hx := K.1.1; have hb := K.1.2.1
  intro H locs ls s0 v1 v4 v6 v7 t0 hw hl hF
  unfold F_Model_forceOf_65 at hF
  refine lv_istore (lv' := [(9, .int t0), (0, .ref (ad 0)), (1, .int v1), (4, .int v4), (6, .int v6), (7, .int v7)]) hx hb d_Model_forceOf_65 hl (by decide) rfl (fun ls hl => ?_)
  refine lv_iload hx hb d_Model_forceOf_67 (lv_at hl 0 rfl) ?_
  refine lv_iload hx hb d_Model_forceOf_69 (lv_at hl 5 rfl) ?_
  refine lv_iconst (v := 3) hx hb d_Model_forceOf_71 (by decide) ?_
  refine lv_icmp_ne (tgt := 87) hx hb d_Model_forceOf_72 (by decide) (fun c_6 => ?_) (fun c_6 => ?_)
  · replace hF := ifT hF c_6
    exact q_Model_forceOf_87 K _ _ _ _ _ _ _ _ _  hw (lv_sub hl [1, 2, 3, 4, 5] rfl) hF
  · replace hF := ifN hF c_6
    refine lv_iload hx hb d_Model_forceOf_75 (lv_at hl 3 rfl) ?_
    refine lv_if_le (tgt := 87) hx hb d_Model_forceOf_77 (by decide) (fun c_12 => ?_) (fun c_12 => ?_)
    · replace hF := ifT hF c_12
      exact q_Model_forceOf_87 K _ _ _ _ _ _ _ _ _  hw (lv_sub hl [1, 2, 3, 4, 5] rfl) hF
    · replace hF := ifF hF c_12
      refine lv_iload hx hb d_Model_forceOf_80 (lv_at hl 3 rfl) ?_
      refine lv_iconst (v := 3) hx hb d_Model_forceOf_82 (by decide) ?_
      refine lv_idiv hx hb d_Model_forceOf_83 (by decide) ?_
      refine lv_goto (tgt := 88) hx hb d_Model_forceOf_84 (by decide) ?_
      exact q_Model_forceOf_88 K _ _ _ _ _ _ _ _ _ _  hw (lv_sub hl [1, 2, 3, 4, 5] rfl) hF
noncomputable def F_Model_forceOf_58 (s0 : St) (v1 : Int32) (v4 : Int32) (v6 : Int32) (v7 : Int32) (v8 : Int32) : Option (Int32 × St) := (F_Model_forceOf_65 s0 v1 v4 v6 v7 v8)
set_option maxHeartbeats 4000000 in
set_option maxRecDepth 100000 in
theorem q_Model_forceOf_58 (K : Fx p s m args meth c b_Model_forceOf 10 R_Model (some .int))  : ∀ (H : Heap) (locs : List Loc) (ls : Array Slot) (s0 : St) (v1 : Int32) (v4 : Int32) (v6 : Int32) (v7 : Int32) (v8 : Int32), Wh D cA ad shM A s s0 H locs → lv_has ls 10 [(0, .ref (ad 0)), (1, .int v1), (4, .int v4), (6, .int v6), (7, .int v7), (8, .int v8)] → F_Model_forceOf_58 s0 v1 v4 v6 v7 v8 = (some (r, τ)) → W p l e rm_Model_forceOf s m args below meth c H locs 0 0 (MQ below (QcI D cA ad shM A r τ) args s 0 0 A) (F0 m 58 ls []) := by
  have hx := K.1.1; have hb := K.1.2.1
  intro H locs ls s0 v1 v4 v6 v7 v8 hw hl hF
  unfold F_Model_forceOf_58 at hF
  refine lv_iload hx hb d_Model_forceOf_58 (lv_at hl 5 rfl) ?_
  refine lv_goto (tgt := 65) hx hb d_Model_forceOf_60 (by decide) ?_
  exact q_Model_forceOf_65 K _ _ _ _ _ _ _ _ _  hw (lv_sub hl [0, 1, 2, 3, 4] rfl) hF
noncomputable def F_Model_forceOf_44 (s0 : St) (v1 : Int32) (v4 : Int32) (v6 : Int32) (v7 : Int32) (t0 : Int32) : Option (Int32 × St) := (if v7 = (1 : Int32) then (F_Model_forceOf_58 s0 v1 v4 v6 v7 t0) else (if ¬ v7 = (3 : Int32) then (F_Model_forceOf_65 s0 v1 v4 v6 v7 v6) else (F_Model_forceOf_58 s0 v1 v4 v6 v7 t0)))
set_option maxHeartbeats 4000000 in
set_option maxRecDepth 100000 in
theorem q_Model_forceOf_44 (K : Fx p s m args meth c b_Model_forceOf 10 R_Model (some .int))  : ∀ (H : Heap) (locs : List Loc) (ls : Array Slot) (s0 : St) (v1 : Int32) (v4 : Int32) (v6 : Int32) (v7 : Int32) (t0 : Int32), Wh D cA ad shM A s s0 H locs → lv_has ls 10 [(0, .ref (ad 0)), (1, .int v1), (4, .int v4), (6, .int v6), (7, .int v7)] → F_Model_forceOf_44 s0 v1 v4 v6 v7 t0 = (some (r, τ)) → W p l e rm_Model_forceOf s m args below meth c H locs 0 0 (MQ below (QcI D cA ad shM A r τ) args s 0 0 A) (F0 m 44 ls [.int t0]) := by
  have hx := K.1.1; have hb := K.1.2.1
  intro H locs ls s0 v1 v4 v6 v7 t0 hw hl hF
  unfold F_Model_forceOf_44 at hF
  refine lv_istore (lv' := [(8, .int t0), (0, .ref (ad 0)), (1, .int v1), (4, .int v4), (6, .int v6), (7, .int v7)]) hx hb d_Model_forceOf_44 hl (by decide) rfl (fun ls hl => ?_)
  refine lv_iload hx hb d_Model_forceOf_46 (lv_at hl 5 rfl) ?_
  refine lv_iconst (v := 1) hx hb d_Model_forceOf_48 (by decide) ?_
  refine lv_icmp_eq (tgt := 58) hx hb d_Model_forceOf_49 (by decide) (fun c_5 => ?_) (fun c_5 => ?_)
  · replace hF := ifT hF c_5
    exact q_Model_forceOf_58 K _ _ _ _ _ _ _ _ _  hw (lv_sub hl [1, 2, 3, 4, 5, 0] rfl) hF
  · replace hF := ifF hF c_5
    refine lv_iload hx hb d_Model_forceOf_52 (lv_at hl 5 rfl) ?_
    refine lv_iconst (v := 3) hx hb d_Model_forceOf_54 (by decide) ?_
    refine lv_icmp_ne (tgt := 63) hx hb d_Model_forceOf_55 (by decide) (fun c_13 => ?_) (fun c_13 => ?_)
    · replace hF := ifT hF c_13
      refine lv_iload hx hb d_Model_forceOf_63 (lv_at hl 4 rfl) ?_
      exact q_Model_forceOf_65 K _ _ _ _ _ _ _ _ _  hw (lv_sub hl [1, 2, 3, 4, 5] rfl) hF
    · replace hF := ifN hF c_13
      exact q_Model_forceOf_58 K _ _ _ _ _ _ _ _ _  hw (lv_sub hl [1, 2, 3, 4, 5, 0] rfl) hF
noncomputable def F_Model_forceOf_0 (s0 : St) (v1 : Int32) (v2 : Int32) (v3 : Int32) (v4 : Int32) (v5 : Int32) : Option (Int32 × St) := (ob2 (F_Model_asksOf s0 (0 : Int32) v1 v2 v3 v4 v5) (fun r_1 s_2 => (if inB v1 6 = true then (if v2 ≤ (12 : Int32) then (F_Model_forceOf_44 s_2 v1 v4 r_1 (s_2.1 1 v1.toNatClampNeg) r_1) else (if inB v1 6 = true then (F_Model_forceOf_44 s_2 v1 v4 r_1 (s_2.1 1 v1.toNatClampNeg) (r_1 + ((2 : Int32) * (s_2.1 3 v1.toNatClampNeg)))) else none)) else none)))
set_option maxHeartbeats 4000000 in
set_option maxRecDepth 100000 in
theorem q_Model_forceOf_0 (K : Fx p s m args meth c b_Model_forceOf 10 R_Model (some .int))  : ∀ (H : Heap) (locs : List Loc) (ls : Array Slot) (s0 : St) (v1 : Int32) (v2 : Int32) (v3 : Int32) (v4 : Int32) (v5 : Int32), Wh D cA ad shM A s s0 H locs → lv_has ls 10 [(0, .ref (ad 0)), (1, .int v1), (2, .int v2), (3, .int v3), (4, .int v4), (5, .int v5)] → F_Model_forceOf_0 s0 v1 v2 v3 v4 v5 = (some (r, τ)) → W p l e rm_Model_forceOf s m args below meth c H locs 0 0 (MQ below (QcI D cA ad shM A r τ) args s 0 0 A) (F0 m 0 ls []) := by
  have hx := K.1.1; have hb := K.1.2.1
  intro H locs ls s0 v1 v2 v3 v4 v5 hw hl hF
  unfold F_Model_forceOf_0 at hF
  refine lv_aload_n hx hb d_Model_forceOf_0 rfl (lv_at hl 0 rfl) ?_
  refine lv_iconst (v := 0) hx hb d_Model_forceOf_1 (by decide) ?_
  refine lv_iload_n hx hb d_Model_forceOf_2 rfl (lv_at hl 1 rfl) ?_
  refine lv_iload_n hx hb d_Model_forceOf_3 rfl (lv_at hl 2 rfl) ?_
  refine lv_iload_n hx hb d_Model_forceOf_4 rfl (lv_at hl 3 rfl) ?_
  refine lv_iload hx hb d_Model_forceOf_5 (lv_at hl 4 rfl) ?_
  refine lv_iload hx hb d_Model_forceOf_7 (lv_at hl 5 rfl) ?_
  obtain ⟨r_1, s_2, h_s_2, hF⟩ := ob2E hF
  refine r_callVI (As := [.int (0 : Int32), .int v1, .int v2, .int v3, .int v4, .int v5]) (rest := []) K hw hl.1 (c_Model_asksOf (l := l) (D := D) (cA := cA) (ad := ad) (s0 := s0)   h_s_2) sh_Model rfl (tb_gV w_1185 w_1187 w_40 w_80 w_1188) a_Model_asksOf ⟨rfl, rfl, Nat.le_of_ble_eq_true rfl, Nat.le_of_ble_eq_true rfl⟩ rfl rfl (Nat.le_of_ble_eq_true rfl) d_Model_forceOf_9 (fun H locs hw => ?_)
  refine lv_istore (lv' := [(6, .int r_1), (0, .ref (ad 0)), (1, .int v1), (2, .int v2), (3, .int v3), (4, .int v4), (5, .int v5)]) hx hb d_Model_forceOf_12 hl (by decide) rfl (fun ls hl => ?_)
  refine lv_aload_n hx hb d_Model_forceOf_14 rfl (lv_at hl 1 rfl) ?_
  refine r_get (v := .ref (ad 1)) K hw i_Model sh_Model rfl 1 (by decide) w_1026 rfl rfl rfl d_Model_forceOf_15 ?_
  refine lv_iload_n hx hb d_Model_forceOf_18 rfl (lv_at hl 2 rfl) ?_
  obtain ⟨g_3, hF⟩ := ifG hF
  refine r_iald (k := v1.toNatClampNeg) K hw (show shM[1]? = some (.inr (.inl 6)) from rfl) rfl (inB_vp g_3) d_Model_forceOf_19 ?_
  refine lv_istore (lv' := [(7, .int (s_2.1 1 v1.toNatClampNeg)), (6, .int r_1), (0, .ref (ad 0)), (1, .int v1), (2, .int v2), (3, .int v3), (4, .int v4), (5, .int v5)]) hx hb d_Model_forceOf_20 hl (by decide) rfl (fun ls hl => ?_)
  refine lv_iload_n hx hb d_Model_forceOf_22 rfl (lv_at hl 4 rfl) ?_
  refine lv_bipush (v := 12) hx hb d_Model_forceOf_23 (by decide) ?_
  refine lv_icmp_le (tgt := 42) hx hb d_Model_forceOf_25 (by decide) (fun c_4 => ?_) (fun c_4 => ?_)
  · replace hF := ifT hF c_4
    refine lv_iload hx hb d_Model_forceOf_42 (lv_at hl 1 rfl) ?_
    exact q_Model_forceOf_44 K _ _ _ _ _ _ _ _ _  hw (lv_sub hl [2, 3, 6, 1, 0] rfl) hF
  · replace hF := ifF hF c_4
    refine lv_iload hx hb d_Model_forceOf_28 (lv_at hl 1 rfl) ?_
    refine lv_iconst (v := 2) hx hb d_Model_forceOf_30 (by decide) ?_
    refine lv_aload_n hx hb d_Model_forceOf_31 rfl (lv_at hl 2 rfl) ?_
    refine r_get (v := .ref (ad 3)) K hw i_Model sh_Model rfl 3 (by decide) w_1028 rfl rfl rfl d_Model_forceOf_32 ?_
    refine lv_iload_n hx hb d_Model_forceOf_35 rfl (lv_at hl 3 rfl) ?_
    obtain ⟨g_14, hF⟩ := ifG hF
    refine r_iald (k := v1.toNatClampNeg) K hw (show shM[3]? = some (.inr (.inl 6)) from rfl) rfl (inB_vp g_14) d_Model_forceOf_36 ?_
    refine lv_imul hx hb d_Model_forceOf_37 ?_
    refine lv_iadd hx hb d_Model_forceOf_38 ?_
    refine lv_goto (tgt := 44) hx hb d_Model_forceOf_39 (by decide) ?_
    exact q_Model_forceOf_44 K _ _ _ _ _ _ _ _ _  hw (lv_sub hl [2, 3, 6, 1, 0] rfl) hF
end S_Model_forceOf
noncomputable abbrev F_Model_forceOf := F_Model_forceOf_0
theorem c_Model_forceOf {l : Launch} {D : va_G} {cA : Nat → ClassId} {ad : Nat → Nat} {s0 τ : St} {r : Int32} {v1 : Int32} {v2 : Int32} {v3 : Int32} {v4 : Int32} {v5 : Int32}  (hF : F_Model_forceOf s0 v1 v2 v3 v4 v5 = (some (r, τ))) : MI l D cA ad shM y_Model_forceOf (wT y_Model_forceOf b_Model_forceOf 10 (some .int)) rm_Model_forceOf [.ref (ad 0), .int v1, .int v2, .int v3, .int v4, .int v5] s0 r τ := fun sz => m_start (Qc := fun A => QcI D cA ad shM A r τ) (by decide +kernel) w_1248 (Nat.le_of_ble_eq_true rfl) (fun p e s m below meth c ls K hl hw => q_Model_forceOf_0 K _ _ _ _ _ _ _ _ _  hw hl hF)

/-! Model.spentBy(IIIII)I -/
abbrev b_Model_spentBy : ByteArray := prog_13_method_33_code
def y_Model_spentBy : MethodName := ⟨R_Model, "spentBy", "(IIIII)I"⟩
theorem a_Model_spentBy : y_Model_spentBy.cls = R_Model ∧ y_Model_spentBy.cls ≠ "java/lang/invoke/MethodHandle" ∧ y_Model_spentBy.cls ≠ "java/lang/invoke/VarHandle" ∧ (parseMethodDescriptor y_Model_spentBy.desc).map (fun d => d.parameters.length) = some 5 := by decide +kernel
abbrev rm_Model_spentBy : Room := { frames := 3, cells := 0, slots := 0, locals := 72 }
theorem w_1252 : Cond.code y_Model_spentBy b_Model_spentBy 7 (some .int) ∈ TB := tb_in 1252 (by decide +kernel) (by decide +kernel)
theorem d_Model_spentBy_0 : decode b_Model_spentBy 0 = .ok (.aload_n 0, 1) := by decide +kernel
theorem d_Model_spentBy_1 : decode b_Model_spentBy 1 = .ok (.iconst 1, 1) := by decide +kernel
theorem d_Model_spentBy_2 : decode b_Model_spentBy 2 = .ok (.iload_n 1, 1) := by decide +kernel
theorem d_Model_spentBy_3 : decode b_Model_spentBy 3 = .ok (.iload_n 2, 1) := by decide +kernel
theorem d_Model_spentBy_4 : decode b_Model_spentBy 4 = .ok (.iload_n 3, 1) := by decide +kernel
theorem d_Model_spentBy_5 : decode b_Model_spentBy 5 = .ok (.iload 4, 2) := by decide +kernel
theorem d_Model_spentBy_7 : decode b_Model_spentBy 7 = .ok (.iload 5, 2) := by decide +kernel
theorem d_Model_spentBy_9 : decode b_Model_spentBy 9 = .ok (.invokevirtual 165, 3) := by decide +kernel
theorem d_Model_spentBy_12 : decode b_Model_spentBy 12 = .ok (.istore 6, 2) := by decide +kernel
theorem d_Model_spentBy_14 : decode b_Model_spentBy 14 = .ok (.aload_n 0, 1) := by decide +kernel
theorem d_Model_spentBy_15 : decode b_Model_spentBy 15 = .ok (.getfield 7, 3) := by decide +kernel
theorem d_Model_spentBy_18 : decode b_Model_spentBy 18 = .ok (.iload_n 1, 1) := by decide +kernel
theorem d_Model_spentBy_19 : decode b_Model_spentBy 19 = .ok (.iaload, 1) := by decide +kernel
theorem d_Model_spentBy_20 : decode b_Model_spentBy 20 = .ok (.iconst 3, 1) := by decide +kernel
theorem d_Model_spentBy_21 : decode b_Model_spentBy 21 = .ok (.if_icmp .ne 15, 3) := by decide +kernel
theorem d_Model_spentBy_24 : decode b_Model_spentBy 24 = .ok (.iload_n 3, 1) := by decide +kernel
theorem d_Model_spentBy_25 : decode b_Model_spentBy 25 = .ok (.iconst 3, 1) := by decide +kernel
theorem d_Model_spentBy_26 : decode b_Model_spentBy 26 = .ok (.if_icmp .ne 10, 3) := by decide +kernel
theorem d_Model_spentBy_29 : decode b_Model_spentBy 29 = .ok (.iload 6, 2) := by decide +kernel
theorem d_Model_spentBy_31 : decode b_Model_spentBy 31 = .ok (.iconst 1, 1) := by decide +kernel
theorem d_Model_spentBy_32 : decode b_Model_spentBy 32 = .ok (.iadd, 1) := by decide +kernel
theorem d_Model_spentBy_33 : decode b_Model_spentBy 33 = .ok (.goto 22, 3) := by decide +kernel
theorem d_Model_spentBy_36 : decode b_Model_spentBy 36 = .ok (.aload_n 0, 1) := by decide +kernel
theorem d_Model_spentBy_37 : decode b_Model_spentBy 37 = .ok (.getfield 7, 3) := by decide +kernel
theorem d_Model_spentBy_40 : decode b_Model_spentBy 40 = .ok (.iload_n 1, 1) := by decide +kernel
theorem d_Model_spentBy_41 : decode b_Model_spentBy 41 = .ok (.iaload, 1) := by decide +kernel
theorem d_Model_spentBy_42 : decode b_Model_spentBy 42 = .ok (.iconst 5, 1) := by decide +kernel
theorem d_Model_spentBy_43 : decode b_Model_spentBy 43 = .ok (.if_icmp .ne 10, 3) := by decide +kernel
theorem d_Model_spentBy_46 : decode b_Model_spentBy 46 = .ok (.iconst 2, 1) := by decide +kernel
theorem d_Model_spentBy_47 : decode b_Model_spentBy 47 = .ok (.iload 6, 2) := by decide +kernel
theorem d_Model_spentBy_49 : decode b_Model_spentBy 49 = .ok (.imul, 1) := by decide +kernel
theorem d_Model_spentBy_50 : decode b_Model_spentBy 50 = .ok (.goto 5, 3) := by decide +kernel
theorem d_Model_spentBy_53 : decode b_Model_spentBy 53 = .ok (.iload 6, 2) := by decide +kernel
theorem d_Model_spentBy_55 : decode b_Model_spentBy 55 = .ok (.iconst 0, 1) := by decide +kernel
theorem d_Model_spentBy_56 : decode b_Model_spentBy 56 = .ok (.bipush 24, 2) := by decide +kernel
theorem d_Model_spentBy_58 : decode b_Model_spentBy 58 = .ok (.invokestatic 162, 3) := by decide +kernel
theorem d_Model_spentBy_61 : decode b_Model_spentBy 61 = .ok (.ireturn, 1) := by decide +kernel
section S_Model_spentBy
variable {p : Program} {l : Launch} {e : Env} {s : State} {m : MethodId} {args : Array Value} {below : List Frame} {meth : Method} {c : Code} {D : va_G} {cA : Nat → ClassId} {ad : Nat → Nat} {nC : Nat} {A : Nat → Prop} {r : Int32} {τ : St}
noncomputable def F_Model_spentBy_55 (s0 : St) (t0 : Int32) : Option (Int32 × St) := (some ((F_Model_within t0 (0 : Int32) (24 : Int32)), s0))
set_option maxHeartbeats 4000000 in
set_option maxRecDepth 100000 in
theorem q_Model_spentBy_55 (K : Fx p s m args meth c b_Model_spentBy 7 R_Model (some .int))  : ∀ (H : Heap) (locs : List Loc) (ls : Array Slot) (s0 : St) (t0 : Int32), Wh D cA ad shM A s s0 H locs → lv_has ls 7 [] → F_Model_spentBy_55 s0 t0 = (some (r, τ)) → W p l e rm_Model_spentBy s m args below meth c H locs 0 0 (MQ below (QcI D cA ad shM A r τ) args s 0 0 A) (F0 m 55 ls [.int t0]) := by
  have hx := K.1.1; have hb := K.1.2.1
  intro H locs ls s0 t0 hw hl hF
  unfold F_Model_spentBy_55 at hF
  refine lv_iconst (v := 0) hx hb d_Model_spentBy_55 (by decide) ?_
  refine lv_bipush (v := 24) hx hb d_Model_spentBy_56 (by decide) ?_
  refine r_callSI (As := [.int t0, .int (0 : Int32), .int (24 : Int32)]) (rest := []) K hw hl.1 (c_Model_within (l := l) (D := D) (cA := cA) (ad := ad) (s0 := s0)   rfl) (tb_gS w_1196 w_1197 w_80 w_1198) a_Model_within ⟨rfl, rfl, Nat.le_of_ble_eq_true rfl, Nat.le_of_ble_eq_true rfl⟩ rfl rfl (Nat.le_of_ble_eq_true rfl) d_Model_spentBy_58 (fun H locs hw => ?_)
  obtain ⟨hF, hG⟩ := sE2 hF
  subst hF
  subst hG
  exact r_iret K hw d_Model_spentBy_61
noncomputable def F_Model_spentBy_36 (s0 : St) (v1 : Int32) (v6 : Int32) : Option (Int32 × St) := (if inB v1 6 = true then (if ¬ (s0.1 1 v1.toNatClampNeg) = (5 : Int32) then (F_Model_spentBy_55 s0 v6) else (F_Model_spentBy_55 s0 ((2 : Int32) * v6))) else none)
set_option maxHeartbeats 4000000 in
set_option maxRecDepth 100000 in
theorem q_Model_spentBy_36 (K : Fx p s m args meth c b_Model_spentBy 7 R_Model (some .int))  : ∀ (H : Heap) (locs : List Loc) (ls : Array Slot) (s0 : St) (v1 : Int32) (v6 : Int32), Wh D cA ad shM A s s0 H locs → lv_has ls 7 [(0, .ref (ad 0)), (1, .int v1), (6, .int v6)] → F_Model_spentBy_36 s0 v1 v6 = (some (r, τ)) → W p l e rm_Model_spentBy s m args below meth c H locs 0 0 (MQ below (QcI D cA ad shM A r τ) args s 0 0 A) (F0 m 36 ls []) := by
  have hx := K.1.1; have hb := K.1.2.1
  intro H locs ls s0 v1 v6 hw hl hF
  unfold F_Model_spentBy_36 at hF
  refine lv_aload_n hx hb d_Model_spentBy_36 rfl (lv_at hl 0 rfl) ?_
  refine r_get (v := .ref (ad 1)) K hw i_Model sh_Model rfl 1 (by decide) w_1026 rfl rfl rfl d_Model_spentBy_37 ?_
  refine lv_iload_n hx hb d_Model_spentBy_40 rfl (lv_at hl 1 rfl) ?_
  obtain ⟨g_5, hF⟩ := ifG hF
  refine r_iald (k := v1.toNatClampNeg) K hw (show shM[1]? = some (.inr (.inl 6)) from rfl) rfl (inB_vp g_5) d_Model_spentBy_41 ?_
  refine lv_iconst (v := 5) hx hb d_Model_spentBy_42 (by decide) ?_
  refine lv_icmp_ne (tgt := 53) hx hb d_Model_spentBy_43 (by decide) (fun c_6 => ?_) (fun c_6 => ?_)
  · replace hF := ifT hF c_6
    refine lv_iload hx hb d_Model_spentBy_53 (lv_at hl 2 rfl) ?_
    exact q_Model_spentBy_55 K _ _ _ _ _  hw (lv_sub hl [] rfl) hF
  · replace hF := ifN hF c_6
    refine lv_iconst (v := 2) hx hb d_Model_spentBy_46 (by decide) ?_
    refine lv_iload hx hb d_Model_spentBy_47 (lv_at hl 2 rfl) ?_
    refine lv_imul hx hb d_Model_spentBy_49 ?_
    refine lv_goto (tgt := 55) hx hb d_Model_spentBy_50 (by decide) ?_
    exact q_Model_spentBy_55 K _ _ _ _ _  hw (lv_sub hl [] rfl) hF
noncomputable def F_Model_spentBy_0 (s0 : St) (v1 : Int32) (v2 : Int32) (v3 : Int32) (v4 : Int32) (v5 : Int32) : Option (Int32 × St) := (ob2 (F_Model_asksOf s0 (1 : Int32) v1 v2 v3 v4 v5) (fun r_1 s_2 => (if inB v1 6 = true then (if ¬ (s_2.1 1 v1.toNatClampNeg) = (3 : Int32) then (F_Model_spentBy_36 s_2 v1 r_1) else (if ¬ v3 = (3 : Int32) then (F_Model_spentBy_36 s_2 v1 r_1) else (F_Model_spentBy_55 s_2 (r_1 + (1 : Int32))))) else none)))
set_option maxHeartbeats 4000000 in
set_option maxRecDepth 100000 in
theorem q_Model_spentBy_0 (K : Fx p s m args meth c b_Model_spentBy 7 R_Model (some .int))  : ∀ (H : Heap) (locs : List Loc) (ls : Array Slot) (s0 : St) (v1 : Int32) (v2 : Int32) (v3 : Int32) (v4 : Int32) (v5 : Int32), Wh D cA ad shM A s s0 H locs → lv_has ls 7 [(0, .ref (ad 0)), (1, .int v1), (2, .int v2), (3, .int v3), (4, .int v4), (5, .int v5)] → F_Model_spentBy_0 s0 v1 v2 v3 v4 v5 = (some (r, τ)) → W p l e rm_Model_spentBy s m args below meth c H locs 0 0 (MQ below (QcI D cA ad shM A r τ) args s 0 0 A) (F0 m 0 ls []) := by
  have hx := K.1.1; have hb := K.1.2.1
  intro H locs ls s0 v1 v2 v3 v4 v5 hw hl hF
  unfold F_Model_spentBy_0 at hF
  refine lv_aload_n hx hb d_Model_spentBy_0 rfl (lv_at hl 0 rfl) ?_
  refine lv_iconst (v := 1) hx hb d_Model_spentBy_1 (by decide) ?_
  refine lv_iload_n hx hb d_Model_spentBy_2 rfl (lv_at hl 1 rfl) ?_
  refine lv_iload_n hx hb d_Model_spentBy_3 rfl (lv_at hl 2 rfl) ?_
  refine lv_iload_n hx hb d_Model_spentBy_4 rfl (lv_at hl 3 rfl) ?_
  refine lv_iload hx hb d_Model_spentBy_5 (lv_at hl 4 rfl) ?_
  refine lv_iload hx hb d_Model_spentBy_7 (lv_at hl 5 rfl) ?_
  obtain ⟨r_1, s_2, h_s_2, hF⟩ := ob2E hF
  refine r_callVI (As := [.int (1 : Int32), .int v1, .int v2, .int v3, .int v4, .int v5]) (rest := []) K hw hl.1 (c_Model_asksOf (l := l) (D := D) (cA := cA) (ad := ad) (s0 := s0)   h_s_2) sh_Model rfl (tb_gV w_1185 w_1187 w_40 w_80 w_1188) a_Model_asksOf ⟨rfl, rfl, Nat.le_of_ble_eq_true rfl, Nat.le_of_ble_eq_true rfl⟩ rfl rfl (Nat.le_of_ble_eq_true rfl) d_Model_spentBy_9 (fun H locs hw => ?_)
  refine lv_istore (lv' := [(6, .int r_1), (0, .ref (ad 0)), (1, .int v1), (2, .int v2), (3, .int v3), (4, .int v4), (5, .int v5)]) hx hb d_Model_spentBy_12 hl (by decide) rfl (fun ls hl => ?_)
  refine lv_aload_n hx hb d_Model_spentBy_14 rfl (lv_at hl 1 rfl) ?_
  refine r_get (v := .ref (ad 1)) K hw i_Model sh_Model rfl 1 (by decide) w_1026 rfl rfl rfl d_Model_spentBy_15 ?_
  refine lv_iload_n hx hb d_Model_spentBy_18 rfl (lv_at hl 2 rfl) ?_
  obtain ⟨g_3, hF⟩ := ifG hF
  refine r_iald (k := v1.toNatClampNeg) K hw (show shM[1]? = some (.inr (.inl 6)) from rfl) rfl (inB_vp g_3) d_Model_spentBy_19 ?_
  refine lv_iconst (v := 3) hx hb d_Model_spentBy_20 (by decide) ?_
  refine lv_icmp_ne (tgt := 36) hx hb d_Model_spentBy_21 (by decide) (fun c_4 => ?_) (fun c_4 => ?_)
  · replace hF := ifT hF c_4
    exact q_Model_spentBy_36 K _ _ _ _ _ _  hw (lv_sub hl [1, 2, 0] rfl) hF
  · replace hF := ifN hF c_4
    refine lv_iload_n hx hb d_Model_spentBy_24 rfl (lv_at hl 4 rfl) ?_
    refine lv_iconst (v := 3) hx hb d_Model_spentBy_25 (by decide) ?_
    refine lv_icmp_ne (tgt := 36) hx hb d_Model_spentBy_26 (by decide) (fun c_7 => ?_) (fun c_7 => ?_)
    · replace hF := ifT hF c_7
      exact q_Model_spentBy_36 K _ _ _ _ _ _  hw (lv_sub hl [1, 2, 0] rfl) hF
    · replace hF := ifN hF c_7
      refine lv_iload hx hb d_Model_spentBy_29 (lv_at hl 0 rfl) ?_
      refine lv_iconst (v := 1) hx hb d_Model_spentBy_31 (by decide) ?_
      refine lv_iadd hx hb d_Model_spentBy_32 ?_
      refine lv_goto (tgt := 55) hx hb d_Model_spentBy_33 (by decide) ?_
      exact q_Model_spentBy_55 K _ _ _ _ _  hw (lv_sub hl [] rfl) hF
end S_Model_spentBy
noncomputable abbrev F_Model_spentBy := F_Model_spentBy_0
theorem c_Model_spentBy {l : Launch} {D : va_G} {cA : Nat → ClassId} {ad : Nat → Nat} {s0 τ : St} {r : Int32} {v1 : Int32} {v2 : Int32} {v3 : Int32} {v4 : Int32} {v5 : Int32}  (hF : F_Model_spentBy s0 v1 v2 v3 v4 v5 = (some (r, τ))) : MI l D cA ad shM y_Model_spentBy (wT y_Model_spentBy b_Model_spentBy 7 (some .int)) rm_Model_spentBy [.ref (ad 0), .int v1, .int v2, .int v3, .int v4, .int v5] s0 r τ := fun sz => m_start (Qc := fun A => QcI D cA ad shM A r τ) (by decide +kernel) w_1252 (Nat.le_of_ble_eq_true rfl) (fun p e s m below meth c ls K hl hw => q_Model_spentBy_0 K _ _ _ _ _ _ _ _ _  hw hl hF)

/-! Model.hardIn(II)I -/
abbrev b_Model_hardIn : ByteArray := prog_13_method_34_code
def y_Model_hardIn : MethodName := ⟨R_Model, "hardIn", "(II)I"⟩
theorem a_Model_hardIn : y_Model_hardIn.cls = R_Model ∧ y_Model_hardIn.cls ≠ "java/lang/invoke/MethodHandle" ∧ y_Model_hardIn.cls ≠ "java/lang/invoke/VarHandle" ∧ (parseMethodDescriptor y_Model_hardIn.desc).map (fun d => d.parameters.length) = some 2 := by decide +kernel
abbrev rm_Model_hardIn : Room := { frames := 0, cells := 0, slots := 0, locals := 0 }
theorem w_1244 : Cond.code y_Model_hardIn b_Model_hardIn 3 (some .int) ∈ TB := tb_in 1244 (by decide +kernel) (by decide +kernel)
theorem d_Model_hardIn_0 : decode b_Model_hardIn 0 = .ok (.iload_n 1, 1) := by decide +kernel
theorem d_Model_hardIn_1 : decode b_Model_hardIn 1 = .ok (.bipush 10, 2) := by decide +kernel
theorem d_Model_hardIn_3 : decode b_Model_hardIn 3 = .ok (.idiv, 1) := by decide +kernel
theorem d_Model_hardIn_4 : decode b_Model_hardIn 4 = .ok (.istore_n 2, 1) := by decide +kernel
theorem d_Model_hardIn_5 : decode b_Model_hardIn 5 = .ok (.iload_n 2, 1) := by decide +kernel
theorem d_Model_hardIn_6 : decode b_Model_hardIn 6 = .ok (.ifCond .ne 11, 3) := by decide +kernel
theorem d_Model_hardIn_9 : decode b_Model_hardIn 9 = .ok (.iload_n 0, 1) := by decide +kernel
theorem d_Model_hardIn_10 : decode b_Model_hardIn 10 = .ok (.sipush 1000, 3) := by decide +kernel
theorem d_Model_hardIn_13 : decode b_Model_hardIn 13 = .ok (.idiv, 1) := by decide +kernel
theorem d_Model_hardIn_14 : decode b_Model_hardIn 14 = .ok (.goto 28, 3) := by decide +kernel
theorem d_Model_hardIn_17 : decode b_Model_hardIn 17 = .ok (.iload_n 2, 1) := by decide +kernel
theorem d_Model_hardIn_18 : decode b_Model_hardIn 18 = .ok (.iconst 1, 1) := by decide +kernel
theorem d_Model_hardIn_19 : decode b_Model_hardIn 19 = .ok (.if_icmp .ne 10, 3) := by decide +kernel
theorem d_Model_hardIn_22 : decode b_Model_hardIn 22 = .ok (.iload_n 0, 1) := by decide +kernel
theorem d_Model_hardIn_23 : decode b_Model_hardIn 23 = .ok (.bipush 100, 2) := by decide +kernel
theorem d_Model_hardIn_25 : decode b_Model_hardIn 25 = .ok (.idiv, 1) := by decide +kernel
theorem d_Model_hardIn_26 : decode b_Model_hardIn 26 = .ok (.goto 16, 3) := by decide +kernel
theorem d_Model_hardIn_29 : decode b_Model_hardIn 29 = .ok (.iload_n 2, 1) := by decide +kernel
theorem d_Model_hardIn_30 : decode b_Model_hardIn 30 = .ok (.iconst 2, 1) := by decide +kernel
theorem d_Model_hardIn_31 : decode b_Model_hardIn 31 = .ok (.if_icmp .ne 10, 3) := by decide +kernel
theorem d_Model_hardIn_34 : decode b_Model_hardIn 34 = .ok (.iload_n 0, 1) := by decide +kernel
theorem d_Model_hardIn_35 : decode b_Model_hardIn 35 = .ok (.bipush 10, 2) := by decide +kernel
theorem d_Model_hardIn_37 : decode b_Model_hardIn 37 = .ok (.idiv, 1) := by decide +kernel
theorem d_Model_hardIn_38 : decode b_Model_hardIn 38 = .ok (.goto 4, 3) := by decide +kernel
theorem d_Model_hardIn_41 : decode b_Model_hardIn 41 = .ok (.iload_n 0, 1) := by decide +kernel
theorem d_Model_hardIn_42 : decode b_Model_hardIn 42 = .ok (.bipush 10, 2) := by decide +kernel
theorem d_Model_hardIn_44 : decode b_Model_hardIn 44 = .ok (.irem, 1) := by decide +kernel
theorem d_Model_hardIn_45 : decode b_Model_hardIn 45 = .ok (.ireturn, 1) := by decide +kernel
section S_Model_hardIn
variable {p : Program} {l : Launch} {e : Env} {s : State} {m : MethodId} {args : Array Value} {below : List Frame} {meth : Method} {c : Code} {D : va_G} {cA : Nat → ClassId} {ad : Nat → Nat} {nC : Nat} {A : Nat → Prop} {r : Int32} {τ : St}
noncomputable def F_Model_hardIn_42 (t0 : Int32) : Int32 := (jrem t0 (10 : Int32))
set_option maxHeartbeats 4000000 in
set_option maxRecDepth 100000 in
theorem q_Model_hardIn_42 (s0 : St) (K : Fx p s m args meth c b_Model_hardIn 3 R_Model (some .int))  : ∀ (H : Heap) (locs : List Loc) (ls : Array Slot) (t0 : Int32), Wh D cA ad shM A s s0 H locs → lv_has ls 3 [] → F_Model_hardIn_42 t0 = r → W p l e rm_Model_hardIn s m args below meth c H locs 0 0 (MQ below (QcI D cA ad shM A r s0) args s 0 0 A) (F0 m 42 ls [.int t0]) := by
  have hx := K.1.1; have hb := K.1.2.1
  intro H locs ls t0 hw hl hF
  unfold F_Model_hardIn_42 at hF
  refine lv_bipush (v := 10) hx hb d_Model_hardIn_42 (by decide) ?_
  refine lv_irem hx hb d_Model_hardIn_44 (by decide) ?_
  subst hF
  exact r_iret K hw d_Model_hardIn_45
noncomputable def F_Model_hardIn_0 (v0 : Int32) (v1 : Int32) : Int32 := (if ¬ (v1 / (10 : Int32)) = 0 then (if ¬ (v1 / (10 : Int32)) = (1 : Int32) then (if ¬ (v1 / (10 : Int32)) = (2 : Int32) then (F_Model_hardIn_42 v0) else (F_Model_hardIn_42 (v0 / (10 : Int32)))) else (F_Model_hardIn_42 (v0 / (100 : Int32)))) else (F_Model_hardIn_42 (v0 / (1000 : Int32))))
set_option maxHeartbeats 4000000 in
set_option maxRecDepth 100000 in
theorem q_Model_hardIn_0 (s0 : St) (K : Fx p s m args meth c b_Model_hardIn 3 R_Model (some .int))  : ∀ (H : Heap) (locs : List Loc) (ls : Array Slot) (v0 : Int32) (v1 : Int32), Wh D cA ad shM A s s0 H locs → lv_has ls 3 [(0, .int v0), (1, .int v1)] → F_Model_hardIn_0 v0 v1 = r → W p l e rm_Model_hardIn s m args below meth c H locs 0 0 (MQ below (QcI D cA ad shM A r s0) args s 0 0 A) (F0 m 0 ls []) := by
  have hx := K.1.1; have hb := K.1.2.1
  intro H locs ls v0 v1 hw hl hF
  unfold F_Model_hardIn_0 at hF
  refine lv_iload_n hx hb d_Model_hardIn_0 rfl (lv_at hl 1 rfl) ?_
  refine lv_bipush (v := 10) hx hb d_Model_hardIn_1 (by decide) ?_
  refine lv_idiv hx hb d_Model_hardIn_3 (by decide) ?_
  refine lv_istore_n (lv' := [(2, .int (v1 / (10 : Int32))), (0, .int v0), (1, .int v1)]) hx hb d_Model_hardIn_4 rfl hl (by decide) rfl (fun ls hl => ?_)
  refine lv_iload_n hx hb d_Model_hardIn_5 rfl (lv_at hl 0 rfl) ?_
  refine lv_if_ne (tgt := 17) hx hb d_Model_hardIn_6 (by decide) (fun c_1 => ?_) (fun c_1 => ?_)
  · replace hF := ifT hF c_1
    refine lv_iload_n hx hb d_Model_hardIn_17 rfl (lv_at hl 0 rfl) ?_
    refine lv_iconst (v := 1) hx hb d_Model_hardIn_18 (by decide) ?_
    refine lv_icmp_ne (tgt := 29) hx hb d_Model_hardIn_19 (by decide) (fun c_2 => ?_) (fun c_2 => ?_)
    · replace hF := ifT hF c_2
      refine lv_iload_n hx hb d_Model_hardIn_29 rfl (lv_at hl 0 rfl) ?_
      refine lv_iconst (v := 2) hx hb d_Model_hardIn_30 (by decide) ?_
      refine lv_icmp_ne (tgt := 41) hx hb d_Model_hardIn_31 (by decide) (fun c_3 => ?_) (fun c_3 => ?_)
      · replace hF := ifT hF c_3
        refine lv_iload_n hx hb d_Model_hardIn_41 rfl (lv_at hl 1 rfl) ?_
        exact q_Model_hardIn_42 s0 K _ _ _ _  hw (lv_sub hl [] rfl) hF
      · replace hF := ifN hF c_3
        refine lv_iload_n hx hb d_Model_hardIn_34 rfl (lv_at hl 1 rfl) ?_
        refine lv_bipush (v := 10) hx hb d_Model_hardIn_35 (by decide) ?_
        refine lv_idiv hx hb d_Model_hardIn_37 (by decide) ?_
        refine lv_goto (tgt := 42) hx hb d_Model_hardIn_38 (by decide) ?_
        exact q_Model_hardIn_42 s0 K _ _ _ _  hw (lv_sub hl [] rfl) hF
    · replace hF := ifN hF c_2
      refine lv_iload_n hx hb d_Model_hardIn_22 rfl (lv_at hl 1 rfl) ?_
      refine lv_bipush (v := 100) hx hb d_Model_hardIn_23 (by decide) ?_
      refine lv_idiv hx hb d_Model_hardIn_25 (by decide) ?_
      refine lv_goto (tgt := 42) hx hb d_Model_hardIn_26 (by decide) ?_
      exact q_Model_hardIn_42 s0 K _ _ _ _  hw (lv_sub hl [] rfl) hF
  · replace hF := ifN hF c_1
    refine lv_iload_n hx hb d_Model_hardIn_9 rfl (lv_at hl 1 rfl) ?_
    refine lv_sipush (v := 1000) hx hb d_Model_hardIn_10 (by decide) ?_
    refine lv_idiv hx hb d_Model_hardIn_13 (by decide) ?_
    refine lv_goto (tgt := 42) hx hb d_Model_hardIn_14 (by decide) ?_
    exact q_Model_hardIn_42 s0 K _ _ _ _  hw (lv_sub hl [] rfl) hF
end S_Model_hardIn
noncomputable abbrev F_Model_hardIn := F_Model_hardIn_0
theorem c_Model_hardIn {l : Launch} {D : va_G} {cA : Nat → ClassId} {ad : Nat → Nat} {s0 : St} {r : Int32} {v0 : Int32} {v1 : Int32}  (hF : F_Model_hardIn v0 v1 = r) : MI l D cA ad shM y_Model_hardIn (wT y_Model_hardIn b_Model_hardIn 3 (some .int)) rm_Model_hardIn [.int v0, .int v1] s0 r s0 := fun sz => m_start (Qc := fun A => QcI D cA ad shM A r s0) (by decide +kernel) w_1244 (Nat.le_of_ble_eq_true rfl) (fun p e s m below meth c ls K hl hw => q_Model_hardIn_0 s0 K _ _ _ _ _  hw hl hF)

/-! Model.tenths(III)V -/
abbrev b_Model_tenths : ByteArray := prog_13_method_35_code
def y_Model_tenths : MethodName := ⟨R_Model, "tenths", "(III)V"⟩
theorem a_Model_tenths : y_Model_tenths.cls = R_Model ∧ y_Model_tenths.cls ≠ "java/lang/invoke/MethodHandle" ∧ y_Model_tenths.cls ≠ "java/lang/invoke/VarHandle" ∧ (parseMethodDescriptor y_Model_tenths.desc).map (fun d => d.parameters.length) = some 3 := by decide +kernel
abbrev rm_Model_tenths : Room := { frames := 4, cells := 0, slots := 0, locals := 101 }
theorem w_1062 : Cond.fieldLink R_Model 175 R_Model "moreLateA" "I" ∈ TB := tb_in 1062 (by decide +kernel) (by decide +kernel)
theorem w_1242 : Cond.methodLink R_Model 178 y_Model_hardIn ∈ TB := tb_in 1242 (by decide +kernel) (by decide +kernel)
theorem w_1243 : Cond.static y_Model_hardIn ∈ TB := tb_in 1243 (by decide +kernel) (by decide +kernel)
theorem w_1063 : Cond.fieldLink R_Model 181 R_Model "moreLateB" "I" ∈ TB := tb_in 1063 (by decide +kernel) (by decide +kernel)
theorem w_1058 : Cond.fieldLink R_Model 184 R_Model "holdA" "I" ∈ TB := tb_in 1058 (by decide +kernel) (by decide +kernel)
theorem w_1057 : Cond.fieldLink R_Model 187 R_Model "ove\x72" "I" ∈ TB := tb_in 1057 (by decide +kernel) (by decide +kernel)
theorem w_1245 : Cond.methodLink R_Model 190 y_Model_forceOf ∈ TB := tb_in 1245 (by decide +kernel) (by decide +kernel)
theorem w_1247 : Cond.instanceMethod y_Model_forceOf ∈ TB := tb_in 1247 (by decide +kernel) (by decide +kernel)
theorem w_48 : Cond.selects R_Model y_Model_forceOf y_Model_forceOf ∈ TB := tb_in 48 (by decide +kernel) (by decide +kernel)
theorem w_1059 : Cond.fieldLink R_Model 194 R_Model "holdB" "I" ∈ TB := tb_in 1059 (by decide +kernel) (by decide +kernel)
theorem w_1249 : Cond.methodLink R_Model 197 y_Model_spentBy ∈ TB := tb_in 1249 (by decide +kernel) (by decide +kernel)
theorem w_1251 : Cond.instanceMethod y_Model_spentBy ∈ TB := tb_in 1251 (by decide +kernel) (by decide +kernel)
theorem w_49 : Cond.selects R_Model y_Model_spentBy y_Model_spentBy ∈ TB := tb_in 49 (by decide +kernel) (by decide +kernel)
theorem w_1060 : Cond.fieldLink R_Model 200 R_Model "hurt" "I" ∈ TB := tb_in 1060 (by decide +kernel) (by decide +kernel)
theorem w_1241 : Cond.code y_Model_tenths b_Model_tenths 10 none ∈ TB := tb_in 1241 (by decide +kernel) (by decide +kernel)
theorem d_Model_tenths_0 : decode b_Model_tenths 0 = .ok (.iload_n 3, 1) := by decide +kernel
theorem d_Model_tenths_1 : decode b_Model_tenths 1 = .ok (.aload_n 0, 1) := by decide +kernel
theorem d_Model_tenths_2 : decode b_Model_tenths 2 = .ok (.iload_n 1, 1) := by decide +kernel
theorem d_Model_tenths_3 : decode b_Model_tenths 3 = .ok (.invokevirtual 172, 3) := by decide +kernel
theorem d_Model_tenths_6 : decode b_Model_tenths 6 = .ok (.aload_n 0, 1) := by decide +kernel
theorem d_Model_tenths_7 : decode b_Model_tenths 7 = .ok (.getfield 175, 3) := by decide +kernel
theorem d_Model_tenths_10 : decode b_Model_tenths 10 = .ok (.iadd, 1) := by decide +kernel
theorem d_Model_tenths_11 : decode b_Model_tenths 11 = .ok (.if_icmp .ge 7, 3) := by decide +kernel
theorem d_Model_tenths_14 : decode b_Model_tenths 14 = .ok (.iconst 0, 1) := by decide +kernel
theorem d_Model_tenths_15 : decode b_Model_tenths 15 = .ok (.goto 13, 3) := by decide +kernel
theorem d_Model_tenths_18 : decode b_Model_tenths 18 = .ok (.aload_n 0, 1) := by decide +kernel
theorem d_Model_tenths_19 : decode b_Model_tenths 19 = .ok (.getfield 22, 3) := by decide +kernel
theorem d_Model_tenths_22 : decode b_Model_tenths 22 = .ok (.iload_n 1, 1) := by decide +kernel
theorem d_Model_tenths_23 : decode b_Model_tenths 23 = .ok (.iaload, 1) := by decide +kernel
theorem d_Model_tenths_24 : decode b_Model_tenths 24 = .ok (.iload_n 3, 1) := by decide +kernel
theorem d_Model_tenths_25 : decode b_Model_tenths 25 = .ok (.invokestatic 178, 3) := by decide +kernel
theorem d_Model_tenths_28 : decode b_Model_tenths 28 = .ok (.istore 4, 2) := by decide +kernel
theorem d_Model_tenths_30 : decode b_Model_tenths 30 = .ok (.iload_n 3, 1) := by decide +kernel
theorem d_Model_tenths_31 : decode b_Model_tenths 31 = .ok (.aload_n 0, 1) := by decide +kernel
theorem d_Model_tenths_32 : decode b_Model_tenths 32 = .ok (.iload_n 2, 1) := by decide +kernel
theorem d_Model_tenths_33 : decode b_Model_tenths 33 = .ok (.invokevirtual 172, 3) := by decide +kernel
theorem d_Model_tenths_36 : decode b_Model_tenths 36 = .ok (.aload_n 0, 1) := by decide +kernel
theorem d_Model_tenths_37 : decode b_Model_tenths 37 = .ok (.getfield 181, 3) := by decide +kernel
theorem d_Model_tenths_40 : decode b_Model_tenths 40 = .ok (.iadd, 1) := by decide +kernel
theorem d_Model_tenths_41 : decode b_Model_tenths 41 = .ok (.if_icmp .ge 7, 3) := by decide +kernel
theorem d_Model_tenths_44 : decode b_Model_tenths 44 = .ok (.iconst 0, 1) := by decide +kernel
theorem d_Model_tenths_45 : decode b_Model_tenths 45 = .ok (.goto 13, 3) := by decide +kernel
theorem d_Model_tenths_48 : decode b_Model_tenths 48 = .ok (.aload_n 0, 1) := by decide +kernel
theorem d_Model_tenths_49 : decode b_Model_tenths 49 = .ok (.getfield 22, 3) := by decide +kernel
theorem d_Model_tenths_52 : decode b_Model_tenths 52 = .ok (.iload_n 2, 1) := by decide +kernel
theorem d_Model_tenths_53 : decode b_Model_tenths 53 = .ok (.iaload, 1) := by decide +kernel
theorem d_Model_tenths_54 : decode b_Model_tenths 54 = .ok (.iload_n 3, 1) := by decide +kernel
theorem d_Model_tenths_55 : decode b_Model_tenths 55 = .ok (.invokestatic 178, 3) := by decide +kernel
theorem d_Model_tenths_58 : decode b_Model_tenths 58 = .ok (.istore 5, 2) := by decide +kernel
theorem d_Model_tenths_60 : decode b_Model_tenths 60 = .ok (.aload_n 0, 1) := by decide +kernel
theorem d_Model_tenths_61 : decode b_Model_tenths 61 = .ok (.iconst 2, 1) := by decide +kernel
theorem d_Model_tenths_62 : decode b_Model_tenths 62 = .ok (.iload_n 1, 1) := by decide +kernel
theorem d_Model_tenths_63 : decode b_Model_tenths 63 = .ok (.aload_n 0, 1) := by decide +kernel
theorem d_Model_tenths_64 : decode b_Model_tenths 64 = .ok (.getfield 184, 3) := by decide +kernel
theorem d_Model_tenths_67 : decode b_Model_tenths 67 = .ok (.iload 4, 2) := by decide +kernel
theorem d_Model_tenths_69 : decode b_Model_tenths 69 = .ok (.aload_n 0, 1) := by decide +kernel
theorem d_Model_tenths_70 : decode b_Model_tenths 70 = .ok (.getfield 187, 3) := by decide +kernel
theorem d_Model_tenths_73 : decode b_Model_tenths 73 = .ok (.iload_n 3, 1) := by decide +kernel
theorem d_Model_tenths_74 : decode b_Model_tenths 74 = .ok (.invokevirtual 165, 3) := by decide +kernel
theorem d_Model_tenths_77 : decode b_Model_tenths 77 = .ok (.istore 6, 2) := by decide +kernel
theorem d_Model_tenths_79 : decode b_Model_tenths 79 = .ok (.aload_n 0, 1) := by decide +kernel
theorem d_Model_tenths_80 : decode b_Model_tenths 80 = .ok (.iload_n 1, 1) := by decide +kernel
theorem d_Model_tenths_81 : decode b_Model_tenths 81 = .ok (.aload_n 0, 1) := by decide +kernel
theorem d_Model_tenths_82 : decode b_Model_tenths 82 = .ok (.getfield 184, 3) := by decide +kernel
theorem d_Model_tenths_85 : decode b_Model_tenths 85 = .ok (.iload 4, 2) := by decide +kernel
theorem d_Model_tenths_87 : decode b_Model_tenths 87 = .ok (.aload_n 0, 1) := by decide +kernel
theorem d_Model_tenths_88 : decode b_Model_tenths 88 = .ok (.getfield 187, 3) := by decide +kernel
theorem d_Model_tenths_91 : decode b_Model_tenths 91 = .ok (.iload_n 3, 1) := by decide +kernel
theorem d_Model_tenths_92 : decode b_Model_tenths 92 = .ok (.invokevirtual 190, 3) := by decide +kernel
theorem d_Model_tenths_95 : decode b_Model_tenths 95 = .ok (.aload_n 0, 1) := by decide +kernel
theorem d_Model_tenths_96 : decode b_Model_tenths 96 = .ok (.iload_n 2, 1) := by decide +kernel
theorem d_Model_tenths_97 : decode b_Model_tenths 97 = .ok (.aload_n 0, 1) := by decide +kernel
theorem d_Model_tenths_98 : decode b_Model_tenths 98 = .ok (.getfield 194, 3) := by decide +kernel
theorem d_Model_tenths_101 : decode b_Model_tenths 101 = .ok (.iload 5, 2) := by decide +kernel
theorem d_Model_tenths_103 : decode b_Model_tenths 103 = .ok (.aload_n 0, 1) := by decide +kernel
theorem d_Model_tenths_104 : decode b_Model_tenths 104 = .ok (.getfield 187, 3) := by decide +kernel
theorem d_Model_tenths_107 : decode b_Model_tenths 107 = .ok (.ineg, 1) := by decide +kernel
theorem d_Model_tenths_108 : decode b_Model_tenths 108 = .ok (.iload_n 3, 1) := by decide +kernel
theorem d_Model_tenths_109 : decode b_Model_tenths 109 = .ok (.invokevirtual 190, 3) := by decide +kernel
theorem d_Model_tenths_112 : decode b_Model_tenths 112 = .ok (.isub, 1) := by decide +kernel
theorem d_Model_tenths_113 : decode b_Model_tenths 113 = .ok (.istore 7, 2) := by decide +kernel
theorem d_Model_tenths_115 : decode b_Model_tenths 115 = .ok (.iload 4, 2) := by decide +kernel
theorem d_Model_tenths_117 : decode b_Model_tenths 117 = .ok (.ifCond .ne 12, 3) := by decide +kernel
theorem d_Model_tenths_120 : decode b_Model_tenths 120 = .ok (.aload_n 0, 1) := by decide +kernel
theorem d_Model_tenths_121 : decode b_Model_tenths 121 = .ok (.getfield 184, 3) := by decide +kernel
theorem d_Model_tenths_124 : decode b_Model_tenths 124 = .ok (.iconst 1, 1) := by decide +kernel
theorem d_Model_tenths_125 : decode b_Model_tenths 125 = .ok (.iadd, 1) := by decide +kernel
theorem d_Model_tenths_126 : decode b_Model_tenths 126 = .ok (.goto 24, 3) := by decide +kernel
theorem d_Model_tenths_129 : decode b_Model_tenths 129 = .ok (.aload_n 0, 1) := by decide +kernel
theorem d_Model_tenths_130 : decode b_Model_tenths 130 = .ok (.getfield 184, 3) := by decide +kernel
theorem d_Model_tenths_133 : decode b_Model_tenths 133 = .ok (.aload_n 0, 1) := by decide +kernel
theorem d_Model_tenths_134 : decode b_Model_tenths 134 = .ok (.iload_n 1, 1) := by decide +kernel
theorem d_Model_tenths_135 : decode b_Model_tenths 135 = .ok (.aload_n 0, 1) := by decide +kernel
theorem d_Model_tenths_136 : decode b_Model_tenths 136 = .ok (.getfield 184, 3) := by decide +kernel
theorem d_Model_tenths_139 : decode b_Model_tenths 139 = .ok (.iload 4, 2) := by decide +kernel
theorem d_Model_tenths_141 : decode b_Model_tenths 141 = .ok (.aload_n 0, 1) := by decide +kernel
theorem d_Model_tenths_142 : decode b_Model_tenths 142 = .ok (.getfield 187, 3) := by decide +kernel
theorem d_Model_tenths_145 : decode b_Model_tenths 145 = .ok (.iload_n 3, 1) := by decide +kernel
theorem d_Model_tenths_146 : decode b_Model_tenths 146 = .ok (.invokevirtual 197, 3) := by decide +kernel
theorem d_Model_tenths_149 : decode b_Model_tenths 149 = .ok (.isub, 1) := by decide +kernel
theorem d_Model_tenths_150 : decode b_Model_tenths 150 = .ok (.istore 8, 2) := by decide +kernel
theorem d_Model_tenths_152 : decode b_Model_tenths 152 = .ok (.iload 5, 2) := by decide +kernel
theorem d_Model_tenths_154 : decode b_Model_tenths 154 = .ok (.ifCond .ne 12, 3) := by decide +kernel
theorem d_Model_tenths_157 : decode b_Model_tenths 157 = .ok (.aload_n 0, 1) := by decide +kernel
theorem d_Model_tenths_158 : decode b_Model_tenths 158 = .ok (.getfield 194, 3) := by decide +kernel
theorem d_Model_tenths_161 : decode b_Model_tenths 161 = .ok (.iconst 1, 1) := by decide +kernel
theorem d_Model_tenths_162 : decode b_Model_tenths 162 = .ok (.iadd, 1) := by decide +kernel
theorem d_Model_tenths_163 : decode b_Model_tenths 163 = .ok (.goto 25, 3) := by decide +kernel
theorem d_Model_tenths_166 : decode b_Model_tenths 166 = .ok (.aload_n 0, 1) := by decide +kernel
theorem d_Model_tenths_167 : decode b_Model_tenths 167 = .ok (.getfield 194, 3) := by decide +kernel
theorem d_Model_tenths_170 : decode b_Model_tenths 170 = .ok (.aload_n 0, 1) := by decide +kernel
theorem d_Model_tenths_171 : decode b_Model_tenths 171 = .ok (.iload_n 2, 1) := by decide +kernel
theorem d_Model_tenths_172 : decode b_Model_tenths 172 = .ok (.aload_n 0, 1) := by decide +kernel
theorem d_Model_tenths_173 : decode b_Model_tenths 173 = .ok (.getfield 194, 3) := by decide +kernel
theorem d_Model_tenths_176 : decode b_Model_tenths 176 = .ok (.iload 5, 2) := by decide +kernel
theorem d_Model_tenths_178 : decode b_Model_tenths 178 = .ok (.aload_n 0, 1) := by decide +kernel
theorem d_Model_tenths_179 : decode b_Model_tenths 179 = .ok (.getfield 187, 3) := by decide +kernel
theorem d_Model_tenths_182 : decode b_Model_tenths 182 = .ok (.ineg, 1) := by decide +kernel
theorem d_Model_tenths_183 : decode b_Model_tenths 183 = .ok (.iload_n 3, 1) := by decide +kernel
theorem d_Model_tenths_184 : decode b_Model_tenths 184 = .ok (.invokevirtual 197, 3) := by decide +kernel
theorem d_Model_tenths_187 : decode b_Model_tenths 187 = .ok (.isub, 1) := by decide +kernel
theorem d_Model_tenths_188 : decode b_Model_tenths 188 = .ok (.istore 9, 2) := by decide +kernel
theorem d_Model_tenths_190 : decode b_Model_tenths 190 = .ok (.aload_n 0, 1) := by decide +kernel
theorem d_Model_tenths_191 : decode b_Model_tenths 191 = .ok (.iload 6, 2) := by decide +kernel
theorem d_Model_tenths_193 : decode b_Model_tenths 193 = .ok (.aload_n 0, 1) := by decide +kernel
theorem d_Model_tenths_194 : decode b_Model_tenths 194 = .ok (.getfield 200, 3) := by decide +kernel
theorem d_Model_tenths_197 : decode b_Model_tenths 197 = .ok (.if_icmp .le 8, 3) := by decide +kernel
theorem d_Model_tenths_200 : decode b_Model_tenths 200 = .ok (.iload 6, 2) := by decide +kernel
theorem d_Model_tenths_202 : decode b_Model_tenths 202 = .ok (.goto 7, 3) := by decide +kernel
theorem d_Model_tenths_205 : decode b_Model_tenths 205 = .ok (.aload_n 0, 1) := by decide +kernel
theorem d_Model_tenths_206 : decode b_Model_tenths 206 = .ok (.getfield 200, 3) := by decide +kernel
theorem d_Model_tenths_209 : decode b_Model_tenths 209 = .ok (.putfield 200, 3) := by decide +kernel
theorem d_Model_tenths_212 : decode b_Model_tenths 212 = .ok (.aload_n 0, 1) := by decide +kernel
theorem d_Model_tenths_213 : decode b_Model_tenths 213 = .ok (.aload_n 0, 1) := by decide +kernel
theorem d_Model_tenths_214 : decode b_Model_tenths 214 = .ok (.getfield 187, 3) := by decide +kernel
theorem d_Model_tenths_217 : decode b_Model_tenths 217 = .ok (.iload 7, 2) := by decide +kernel
theorem d_Model_tenths_219 : decode b_Model_tenths 219 = .ok (.bipush 10, 2) := by decide +kernel
theorem d_Model_tenths_221 : decode b_Model_tenths 221 = .ok (.idiv, 1) := by decide +kernel
theorem d_Model_tenths_222 : decode b_Model_tenths 222 = .ok (.iadd, 1) := by decide +kernel
theorem d_Model_tenths_223 : decode b_Model_tenths 223 = .ok (.bipush (-30), 2) := by decide +kernel
theorem d_Model_tenths_225 : decode b_Model_tenths 225 = .ok (.bipush 30, 2) := by decide +kernel
theorem d_Model_tenths_227 : decode b_Model_tenths 227 = .ok (.invokestatic 162, 3) := by decide +kernel
theorem d_Model_tenths_230 : decode b_Model_tenths 230 = .ok (.putfield 187, 3) := by decide +kernel
theorem d_Model_tenths_233 : decode b_Model_tenths 233 = .ok (.aload_n 0, 1) := by decide +kernel
theorem d_Model_tenths_234 : decode b_Model_tenths 234 = .ok (.iload 8, 2) := by decide +kernel
theorem d_Model_tenths_236 : decode b_Model_tenths 236 = .ok (.iconst 0, 1) := by decide +kernel
theorem d_Model_tenths_237 : decode b_Model_tenths 237 = .ok (.bipush 24, 2) := by decide +kernel
theorem d_Model_tenths_239 : decode b_Model_tenths 239 = .ok (.invokestatic 162, 3) := by decide +kernel
theorem d_Model_tenths_242 : decode b_Model_tenths 242 = .ok (.putfield 184, 3) := by decide +kernel
theorem d_Model_tenths_245 : decode b_Model_tenths 245 = .ok (.aload_n 0, 1) := by decide +kernel
theorem d_Model_tenths_246 : decode b_Model_tenths 246 = .ok (.iload 9, 2) := by decide +kernel
theorem d_Model_tenths_248 : decode b_Model_tenths 248 = .ok (.iconst 0, 1) := by decide +kernel
theorem d_Model_tenths_249 : decode b_Model_tenths 249 = .ok (.bipush 24, 2) := by decide +kernel
theorem d_Model_tenths_251 : decode b_Model_tenths 251 = .ok (.invokestatic 162, 3) := by decide +kernel
theorem d_Model_tenths_254 : decode b_Model_tenths 254 = .ok (.putfield 194, 3) := by decide +kernel
theorem d_Model_tenths_257 : decode b_Model_tenths 257 = .ok (.return_, 1) := by decide +kernel
section S_Model_tenths
variable {p : Program} {l : Launch} {e : Env} {s : State} {m : MethodId} {args : Array Value} {below : List Frame} {meth : Method} {c : Code} {D : va_G} {cA : Nat → ClassId} {ad : Nat → Nat} {nC : Nat} {A : Nat → Prop} {τ : St}
noncomputable def F_Model_tenths_209 (s0 : St) (v7 : Int32) (v8 : Int32) (v9 : Int32) (t1 : Int32) : Option St := (lt (up1 s0 0 35 t1) (fun s_20 => (lt (up1 s_20 0 32 (F_Model_within ((s_20.1 0 32) + (v7 / (10 : Int32))) (-30 : Int32) (30 : Int32))) (fun s_21 => (lt (up1 s_21 0 33 (F_Model_within v8 (0 : Int32) (24 : Int32))) (fun s_22 => (lt (up1 s_22 0 34 (F_Model_within v9 (0 : Int32) (24 : Int32))) (fun s_23 => (some s_23)))))))))
set_option maxHeartbeats 4000000 in
set_option maxRecDepth 100000 in
theorem q_Model_tenths_209 (K : Fx p s m args meth c b_Model_tenths 10 R_Model none)  : ∀ (H : Heap) (locs : List Loc) (ls : Array Slot) (s0 : St) (v7 : Int32) (v8 : Int32) (v9 : Int32) (t1 : Int32), Wh D cA ad shM A s s0 H locs → lv_has ls 10 [(0, .ref (ad 0)), (7, .int v7), (8, .int v8), (9, .int v9)] → F_Model_tenths_209 s0 v7 v8 v9 t1 = (some τ) → W p l e rm_Model_tenths s m args below meth c H locs 0 0 (MQ below (QcV D cA ad shM A τ) args s 0 0 A) (F0 m 209 ls [.int t1, .ref (ad 0)]) := by
  have hx := K.1.1; have hb := K.1.2.1
  intro H locs ls s0 v7 v8 v9 t1 hw hl hF
  unfold F_Model_tenths_209 at hF
  refine r_putI K hw i_Model t_Model t_Model_ok n_Model sh_Model rfl 35 (by decide) w_1060 rfl rfl rfl rfl rfl d_Model_tenths_209 (fun s_20 f_s_20 H locs hw => ?_)
  replace hF := ltN hF f_s_20
  refine lv_aload_n hx hb d_Model_tenths_212 rfl (lv_at hl 0 rfl) ?_
  refine lv_aload_n hx hb d_Model_tenths_213 rfl (lv_at hl 0 rfl) ?_
  refine r_get (v := .int (s_20.1 0 32)) K hw i_Model sh_Model rfl 32 (by decide) w_1057 rfl rfl rfl d_Model_tenths_214 ?_
  refine lv_iload hx hb d_Model_tenths_217 (lv_at hl 1 rfl) ?_
  refine lv_bipush (v := 10) hx hb d_Model_tenths_219 (by decide) ?_
  refine lv_idiv hx hb d_Model_tenths_221 (by decide) ?_
  refine lv_iadd hx hb d_Model_tenths_222 ?_
  refine lv_bipush (v := -30) hx hb d_Model_tenths_223 (by decide) ?_
  refine lv_bipush (v := 30) hx hb d_Model_tenths_225 (by decide) ?_
  refine r_callSI (As := [.int ((s_20.1 0 32) + (v7 / (10 : Int32))), .int (-30 : Int32), .int (30 : Int32)]) (rest := [.ref (ad 0)]) K hw hl.1 (c_Model_within (l := l) (D := D) (cA := cA) (ad := ad) (s0 := s_20)   rfl) (tb_gS w_1196 w_1197 w_80 w_1198) a_Model_within ⟨rfl, rfl, Nat.le_of_ble_eq_true rfl, Nat.le_of_ble_eq_true rfl⟩ rfl rfl (Nat.le_of_ble_eq_true rfl) d_Model_tenths_227 (fun H locs hw => ?_)
  refine r_putI K hw i_Model t_Model t_Model_ok n_Model sh_Model rfl 32 (by decide) w_1057 rfl rfl rfl rfl rfl d_Model_tenths_230 (fun s_21 f_s_21 H locs hw => ?_)
  replace hF := ltN hF f_s_21
  refine lv_aload_n hx hb d_Model_tenths_233 rfl (lv_at hl 0 rfl) ?_
  refine lv_iload hx hb d_Model_tenths_234 (lv_at hl 2 rfl) ?_
  refine lv_iconst (v := 0) hx hb d_Model_tenths_236 (by decide) ?_
  refine lv_bipush (v := 24) hx hb d_Model_tenths_237 (by decide) ?_
  refine r_callSI (As := [.int v8, .int (0 : Int32), .int (24 : Int32)]) (rest := [.ref (ad 0)]) K hw hl.1 (c_Model_within (l := l) (D := D) (cA := cA) (ad := ad) (s0 := s_21)   rfl) (tb_gS w_1196 w_1197 w_80 w_1198) a_Model_within ⟨rfl, rfl, Nat.le_of_ble_eq_true rfl, Nat.le_of_ble_eq_true rfl⟩ rfl rfl (Nat.le_of_ble_eq_true rfl) d_Model_tenths_239 (fun H locs hw => ?_)
  refine r_putI K hw i_Model t_Model t_Model_ok n_Model sh_Model rfl 33 (by decide) w_1058 rfl rfl rfl rfl rfl d_Model_tenths_242 (fun s_22 f_s_22 H locs hw => ?_)
  replace hF := ltN hF f_s_22
  refine lv_aload_n hx hb d_Model_tenths_245 rfl (lv_at hl 0 rfl) ?_
  refine lv_iload hx hb d_Model_tenths_246 (lv_at hl 3 rfl) ?_
  refine lv_iconst (v := 0) hx hb d_Model_tenths_248 (by decide) ?_
  refine lv_bipush (v := 24) hx hb d_Model_tenths_249 (by decide) ?_
  refine r_callSI (As := [.int v9, .int (0 : Int32), .int (24 : Int32)]) (rest := [.ref (ad 0)]) K hw hl.1 (c_Model_within (l := l) (D := D) (cA := cA) (ad := ad) (s0 := s_22)   rfl) (tb_gS w_1196 w_1197 w_80 w_1198) a_Model_within ⟨rfl, rfl, Nat.le_of_ble_eq_true rfl, Nat.le_of_ble_eq_true rfl⟩ rfl rfl (Nat.le_of_ble_eq_true rfl) d_Model_tenths_251 (fun H locs hw => ?_)
  refine r_putI K hw i_Model t_Model t_Model_ok n_Model sh_Model rfl 34 (by decide) w_1059 rfl rfl rfl rfl rfl d_Model_tenths_254 (fun s_23 f_s_23 H locs hw => ?_)
  replace hF := ltN hF f_s_23
  replace hF := sE1 hF
  subst hF
  exact r_vret K hw d_Model_tenths_257
noncomputable def F_Model_tenths_188 (s0 : St) (v6 : Int32) (v7 : Int32) (v8 : Int32) (t0 : Int32) : Option St := (if v6 ≤ (s0.1 0 35) then (F_Model_tenths_209 s0 v7 v8 t0 (s0.1 0 35)) else (F_Model_tenths_209 s0 v7 v8 t0 v6))
set_option maxHeartbeats 4000000 in
set_option maxRecDepth 100000 in
theorem q_Model_tenths_188 (K : Fx p s m args meth c b_Model_tenths 10 R_Model none)  : ∀ (H : Heap) (locs : List Loc) (ls : Array Slot) (s0 : St) (v6 : Int32) (v7 : Int32) (v8 : Int32) (t0 : Int32), Wh D cA ad shM A s s0 H locs → lv_has ls 10 [(0, .ref (ad 0)), (6, .int v6), (7, .int v7), (8, .int v8)] → F_Model_tenths_188 s0 v6 v7 v8 t0 = (some τ) → W p l e rm_Model_tenths s m args below meth c H locs 0 0 (MQ below (QcV D cA ad shM A τ) args s 0 0 A) (F0 m 188 ls [.int t0]) := by
  have hx := K.1.1; have hb := K.1.2.1
  intro H locs ls s0 v6 v7 v8 t0 hw hl hF
  unfold F_Model_tenths_188 at hF
  refine lv_istore (lv' := [(9, .int t0), (0, .ref (ad 0)), (6, .int v6), (7, .int v7), (8, .int v8)]) hx hb d_Model_tenths_188 hl (by decide) rfl (fun ls hl => ?_)
  refine lv_aload_n hx hb d_Model_tenths_190 rfl (lv_at hl 1 rfl) ?_
  refine lv_iload hx hb d_Model_tenths_191 (lv_at hl 2 rfl) ?_
  refine lv_aload_n hx hb d_Model_tenths_193 rfl (lv_at hl 1 rfl) ?_
  refine r_get (v := .int (s0.1 0 35)) K hw i_Model sh_Model rfl 35 (by decide) w_1060 rfl rfl rfl d_Model_tenths_194 ?_
  refine lv_icmp_le (tgt := 205) hx hb d_Model_tenths_197 (by decide) (fun c_19 => ?_) (fun c_19 => ?_)
  · replace hF := ifT hF c_19
    refine lv_aload_n hx hb d_Model_tenths_205 rfl (lv_at hl 1 rfl) ?_
    refine r_get (v := .int (s0.1 0 35)) K hw i_Model sh_Model rfl 35 (by decide) w_1060 rfl rfl rfl d_Model_tenths_206 ?_
    exact q_Model_tenths_209 K _ _ _ _ _ _ _ _  hw (lv_sub hl [1, 3, 4, 0] rfl) hF
  · replace hF := ifF hF c_19
    refine lv_iload hx hb d_Model_tenths_200 (lv_at hl 2 rfl) ?_
    refine lv_goto (tgt := 209) hx hb d_Model_tenths_202 (by decide) ?_
    exact q_Model_tenths_209 K _ _ _ _ _ _ _ _  hw (lv_sub hl [1, 3, 4, 0] rfl) hF
noncomputable def F_Model_tenths_150 (s0 : St) (v2 : Int32) (v3 : Int32) (v5 : Int32) (v6 : Int32) (v7 : Int32) (t0 : Int32) : Option St := (if ¬ v5 = 0 then (ob2 (F_Model_spentBy s0 v2 (s0.1 0 34) v5 (-(s0.1 0 32)) v3) (fun r_17 s_18 => (F_Model_tenths_188 s_18 v6 v7 t0 ((s0.1 0 34) - r_17)))) else (F_Model_tenths_188 s0 v6 v7 t0 ((s0.1 0 34) + (1 : Int32))))
set_option maxHeartbeats 4000000 in
set_option maxRecDepth 100000 in
theorem q_Model_tenths_150 (K : Fx p s m args meth c b_Model_tenths 10 R_Model none)  : ∀ (H : Heap) (locs : List Loc) (ls : Array Slot) (s0 : St) (v2 : Int32) (v3 : Int32) (v5 : Int32) (v6 : Int32) (v7 : Int32) (t0 : Int32), Wh D cA ad shM A s s0 H locs → lv_has ls 10 [(0, .ref (ad 0)), (2, .int v2), (3, .int v3), (5, .int v5), (6, .int v6), (7, .int v7)] → F_Model_tenths_150 s0 v2 v3 v5 v6 v7 t0 = (some τ) → W p l e rm_Model_tenths s m args below meth c H locs 0 0 (MQ below (QcV D cA ad shM A τ) args s 0 0 A) (F0 m 150 ls [.int t0]) := by
  have hx := K.1.1; have hb := K.1.2.1
  intro H locs ls s0 v2 v3 v5 v6 v7 t0 hw hl hF
  unfold F_Model_tenths_150 at hF
  refine lv_istore (lv' := [(8, .int t0), (0, .ref (ad 0)), (2, .int v2), (3, .int v3), (5, .int v5), (6, .int v6), (7, .int v7)]) hx hb d_Model_tenths_150 hl (by decide) rfl (fun ls hl => ?_)
  refine lv_iload hx hb d_Model_tenths_152 (lv_at hl 4 rfl) ?_
  refine lv_if_ne (tgt := 166) hx hb d_Model_tenths_154 (by decide) (fun c_16 => ?_) (fun c_16 => ?_)
  · replace hF := ifT hF c_16
    refine lv_aload_n hx hb d_Model_tenths_166 rfl (lv_at hl 1 rfl) ?_
    refine r_get (v := .int (s0.1 0 34)) K hw i_Model sh_Model rfl 34 (by decide) w_1059 rfl rfl rfl d_Model_tenths_167 ?_
    refine lv_aload_n hx hb d_Model_tenths_170 rfl (lv_at hl 1 rfl) ?_
    refine lv_iload_n hx hb d_Model_tenths_171 rfl (lv_at hl 2 rfl) ?_
    refine lv_aload_n hx hb d_Model_tenths_172 rfl (lv_at hl 1 rfl) ?_
    refine r_get (v := .int (s0.1 0 34)) K hw i_Model sh_Model rfl 34 (by decide) w_1059 rfl rfl rfl d_Model_tenths_173 ?_
    refine lv_iload hx hb d_Model_tenths_176 (lv_at hl 4 rfl) ?_
    refine lv_aload_n hx hb d_Model_tenths_178 rfl (lv_at hl 1 rfl) ?_
    refine r_get (v := .int (s0.1 0 32)) K hw i_Model sh_Model rfl 32 (by decide) w_1057 rfl rfl rfl d_Model_tenths_179 ?_
    refine lv_ineg hx hb d_Model_tenths_182 ?_
    refine lv_iload_n hx hb d_Model_tenths_183 rfl (lv_at hl 3 rfl) ?_
    obtain ⟨r_17, s_18, h_s_18, hF⟩ := ob2E hF
    refine r_callVI (As := [.int v2, .int (s0.1 0 34), .int v5, .int (-(s0.1 0 32)), .int v3]) (rest := [.int (s0.1 0 34)]) K hw hl.1 (c_Model_spentBy (l := l) (D := D) (cA := cA) (ad := ad) (s0 := s0)   h_s_18) sh_Model rfl (tb_gV w_1249 w_1251 w_49 w_80 w_1252) a_Model_spentBy ⟨rfl, rfl, Nat.le_of_ble_eq_true rfl, Nat.le_of_ble_eq_true rfl⟩ rfl rfl (Nat.le_of_ble_eq_true rfl) d_Model_tenths_184 (fun H locs hw => ?_)
    refine lv_isub hx hb d_Model_tenths_187 ?_
    exact q_Model_tenths_188 K _ _ _ _ _ _ _ _  hw (lv_sub hl [1, 5, 6, 0] rfl) hF
  · replace hF := ifN hF c_16
    refine lv_aload_n hx hb d_Model_tenths_157 rfl (lv_at hl 1 rfl) ?_
    refine r_get (v := .int (s0.1 0 34)) K hw i_Model sh_Model rfl 34 (by decide) w_1059 rfl rfl rfl d_Model_tenths_158 ?_
    refine lv_iconst (v := 1) hx hb d_Model_tenths_161 (by decide) ?_
    refine lv_iadd hx hb d_Model_tenths_162 ?_
    refine lv_goto (tgt := 188) hx hb d_Model_tenths_163 (by decide) ?_
    exact q_Model_tenths_188 K _ _ _ _ _ _ _ _  hw (lv_sub hl [1, 5, 6, 0] rfl) hF
noncomputable def F_Model_tenths_58 (s0 : St) (v1 : Int32) (v2 : Int32) (v3 : Int32) (v4 : Int32) (t0 : Int32) : Option St := (ob2 (F_Model_asksOf s0 (2 : Int32) v1 (s0.1 0 33) v4 (s0.1 0 32) v3) (fun r_7 s_8 => (ob2 (F_Model_forceOf s_8 v1 (s_8.1 0 33) v4 (s_8.1 0 32) v3) (fun r_9 s_10 => (ob2 (F_Model_forceOf s_10 v2 (s_10.1 0 34) t0 (-(s_10.1 0 32)) v3) (fun r_11 s_12 => (if ¬ v4 = 0 then (ob2 (F_Model_spentBy s_12 v1 (s_12.1 0 33) v4 (s_12.1 0 32) v3) (fun r_14 s_15 => (F_Model_tenths_150 s_15 v2 v3 t0 r_7 (r_9 - r_11) ((s_12.1 0 33) - r_14)))) else (F_Model_tenths_150 s_12 v2 v3 t0 r_7 (r_9 - r_11) ((s_12.1 0 33) + (1 : Int32))))))))))
set_option maxHeartbeats 4000000 in
set_option maxRecDepth 100000 in
theorem q_Model_tenths_58 (K : Fx p s m args meth c b_Model_tenths 10 R_Model none)  : ∀ (H : Heap) (locs : List Loc) (ls : Array Slot) (s0 : St) (v1 : Int32) (v2 : Int32) (v3 : Int32) (v4 : Int32) (t0 : Int32), Wh D cA ad shM A s s0 H locs → lv_has ls 10 [(0, .ref (ad 0)), (1, .int v1), (2, .int v2), (3, .int v3), (4, .int v4)] → F_Model_tenths_58 s0 v1 v2 v3 v4 t0 = (some τ) → W p l e rm_Model_tenths s m args below meth c H locs 0 0 (MQ below (QcV D cA ad shM A τ) args s 0 0 A) (F0 m 58 ls [.int t0]) := by
  have hx := K.1.1; have hb := K.1.2.1
  intro H locs ls s0 v1 v2 v3 v4 t0 hw hl hF
  unfold F_Model_tenths_58 at hF
  refine lv_istore (lv' := [(5, .int t0), (0, .ref (ad 0)), (1, .int v1), (2, .int v2), (3, .int v3), (4, .int v4)]) hx hb d_Model_tenths_58 hl (by decide) rfl (fun ls hl => ?_)
  refine lv_aload_n hx hb d_Model_tenths_60 rfl (lv_at hl 1 rfl) ?_
  refine lv_iconst (v := 2) hx hb d_Model_tenths_61 (by decide) ?_
  refine lv_iload_n hx hb d_Model_tenths_62 rfl (lv_at hl 2 rfl) ?_
  refine lv_aload_n hx hb d_Model_tenths_63 rfl (lv_at hl 1 rfl) ?_
  refine r_get (v := .int (s0.1 0 33)) K hw i_Model sh_Model rfl 33 (by decide) w_1058 rfl rfl rfl d_Model_tenths_64 ?_
  refine lv_iload hx hb d_Model_tenths_67 (lv_at hl 5 rfl) ?_
  refine lv_aload_n hx hb d_Model_tenths_69 rfl (lv_at hl 1 rfl) ?_
  refine r_get (v := .int (s0.1 0 32)) K hw i_Model sh_Model rfl 32 (by decide) w_1057 rfl rfl rfl d_Model_tenths_70 ?_
  refine lv_iload_n hx hb d_Model_tenths_73 rfl (lv_at hl 4 rfl) ?_
  obtain ⟨r_7, s_8, h_s_8, hF⟩ := ob2E hF
  refine r_callVI (As := [.int (2 : Int32), .int v1, .int (s0.1 0 33), .int v4, .int (s0.1 0 32), .int v3]) (rest := []) K hw hl.1 (c_Model_asksOf (l := l) (D := D) (cA := cA) (ad := ad) (s0 := s0)   h_s_8) sh_Model rfl (tb_gV w_1185 w_1187 w_40 w_80 w_1188) a_Model_asksOf ⟨rfl, rfl, Nat.le_of_ble_eq_true rfl, Nat.le_of_ble_eq_true rfl⟩ rfl rfl (Nat.le_of_ble_eq_true rfl) d_Model_tenths_74 (fun H locs hw => ?_)
  refine lv_istore (lv' := [(6, .int r_7), (5, .int t0), (0, .ref (ad 0)), (1, .int v1), (2, .int v2), (3, .int v3), (4, .int v4)]) hx hb d_Model_tenths_77 hl (by decide) rfl (fun ls hl => ?_)
  refine lv_aload_n hx hb d_Model_tenths_79 rfl (lv_at hl 2 rfl) ?_
  refine lv_iload_n hx hb d_Model_tenths_80 rfl (lv_at hl 3 rfl) ?_
  refine lv_aload_n hx hb d_Model_tenths_81 rfl (lv_at hl 2 rfl) ?_
  refine r_get (v := .int (s_8.1 0 33)) K hw i_Model sh_Model rfl 33 (by decide) w_1058 rfl rfl rfl d_Model_tenths_82 ?_
  refine lv_iload hx hb d_Model_tenths_85 (lv_at hl 6 rfl) ?_
  refine lv_aload_n hx hb d_Model_tenths_87 rfl (lv_at hl 2 rfl) ?_
  refine r_get (v := .int (s_8.1 0 32)) K hw i_Model sh_Model rfl 32 (by decide) w_1057 rfl rfl rfl d_Model_tenths_88 ?_
  refine lv_iload_n hx hb d_Model_tenths_91 rfl (lv_at hl 5 rfl) ?_
  obtain ⟨r_9, s_10, h_s_10, hF⟩ := ob2E hF
  refine r_callVI (As := [.int v1, .int (s_8.1 0 33), .int v4, .int (s_8.1 0 32), .int v3]) (rest := []) K hw hl.1 (c_Model_forceOf (l := l) (D := D) (cA := cA) (ad := ad) (s0 := s_8)   h_s_10) sh_Model rfl (tb_gV w_1245 w_1247 w_48 w_80 w_1248) a_Model_forceOf ⟨rfl, rfl, Nat.le_of_ble_eq_true rfl, Nat.le_of_ble_eq_true rfl⟩ rfl rfl (Nat.le_of_ble_eq_true rfl) d_Model_tenths_92 (fun H locs hw => ?_)
  refine lv_aload_n hx hb d_Model_tenths_95 rfl (lv_at hl 2 rfl) ?_
  refine lv_iload_n hx hb d_Model_tenths_96 rfl (lv_at hl 4 rfl) ?_
  refine lv_aload_n hx hb d_Model_tenths_97 rfl (lv_at hl 2 rfl) ?_
  refine r_get (v := .int (s_10.1 0 34)) K hw i_Model sh_Model rfl 34 (by decide) w_1059 rfl rfl rfl d_Model_tenths_98 ?_
  refine lv_iload hx hb d_Model_tenths_101 (lv_at hl 1 rfl) ?_
  refine lv_aload_n hx hb d_Model_tenths_103 rfl (lv_at hl 2 rfl) ?_
  refine r_get (v := .int (s_10.1 0 32)) K hw i_Model sh_Model rfl 32 (by decide) w_1057 rfl rfl rfl d_Model_tenths_104 ?_
  refine lv_ineg hx hb d_Model_tenths_107 ?_
  refine lv_iload_n hx hb d_Model_tenths_108 rfl (lv_at hl 5 rfl) ?_
  obtain ⟨r_11, s_12, h_s_12, hF⟩ := ob2E hF
  refine r_callVI (As := [.int v2, .int (s_10.1 0 34), .int t0, .int (-(s_10.1 0 32)), .int v3]) (rest := [.int r_9]) K hw hl.1 (c_Model_forceOf (l := l) (D := D) (cA := cA) (ad := ad) (s0 := s_10)   h_s_12) sh_Model rfl (tb_gV w_1245 w_1247 w_48 w_80 w_1248) a_Model_forceOf ⟨rfl, rfl, Nat.le_of_ble_eq_true rfl, Nat.le_of_ble_eq_true rfl⟩ rfl rfl (Nat.le_of_ble_eq_true rfl) d_Model_tenths_109 (fun H locs hw => ?_)
  refine lv_isub hx hb d_Model_tenths_112 ?_
  refine lv_istore (lv' := [(7, .int (r_9 - r_11)), (6, .int r_7), (5, .int t0), (0, .ref (ad 0)), (1, .int v1), (2, .int v2), (3, .int v3), (4, .int v4)]) hx hb d_Model_tenths_113 hl (by decide) rfl (fun ls hl => ?_)
  refine lv_iload hx hb d_Model_tenths_115 (lv_at hl 7 rfl) ?_
  refine lv_if_ne (tgt := 129) hx hb d_Model_tenths_117 (by decide) (fun c_13 => ?_) (fun c_13 => ?_)
  · replace hF := ifT hF c_13
    refine lv_aload_n hx hb d_Model_tenths_129 rfl (lv_at hl 3 rfl) ?_
    refine r_get (v := .int (s_12.1 0 33)) K hw i_Model sh_Model rfl 33 (by decide) w_1058 rfl rfl rfl d_Model_tenths_130 ?_
    refine lv_aload_n hx hb d_Model_tenths_133 rfl (lv_at hl 3 rfl) ?_
    refine lv_iload_n hx hb d_Model_tenths_134 rfl (lv_at hl 4 rfl) ?_
    refine lv_aload_n hx hb d_Model_tenths_135 rfl (lv_at hl 3 rfl) ?_
    refine r_get (v := .int (s_12.1 0 33)) K hw i_Model sh_Model rfl 33 (by decide) w_1058 rfl rfl rfl d_Model_tenths_136 ?_
    refine lv_iload hx hb d_Model_tenths_139 (lv_at hl 7 rfl) ?_
    refine lv_aload_n hx hb d_Model_tenths_141 rfl (lv_at hl 3 rfl) ?_
    refine r_get (v := .int (s_12.1 0 32)) K hw i_Model sh_Model rfl 32 (by decide) w_1057 rfl rfl rfl d_Model_tenths_142 ?_
    refine lv_iload_n hx hb d_Model_tenths_145 rfl (lv_at hl 6 rfl) ?_
    obtain ⟨r_14, s_15, h_s_15, hF⟩ := ob2E hF
    refine r_callVI (As := [.int v1, .int (s_12.1 0 33), .int v4, .int (s_12.1 0 32), .int v3]) (rest := [.int (s_12.1 0 33)]) K hw hl.1 (c_Model_spentBy (l := l) (D := D) (cA := cA) (ad := ad) (s0 := s_12)   h_s_15) sh_Model rfl (tb_gV w_1249 w_1251 w_49 w_80 w_1252) a_Model_spentBy ⟨rfl, rfl, Nat.le_of_ble_eq_true rfl, Nat.le_of_ble_eq_true rfl⟩ rfl rfl (Nat.le_of_ble_eq_true rfl) d_Model_tenths_146 (fun H locs hw => ?_)
    refine lv_isub hx hb d_Model_tenths_149 ?_
    exact q_Model_tenths_150 K _ _ _ _ _ _ _ _ _ _  hw (lv_sub hl [3, 5, 6, 2, 1, 0] rfl) hF
  · replace hF := ifN hF c_13
    refine lv_aload_n hx hb d_Model_tenths_120 rfl (lv_at hl 3 rfl) ?_
    refine r_get (v := .int (s_12.1 0 33)) K hw i_Model sh_Model rfl 33 (by decide) w_1058 rfl rfl rfl d_Model_tenths_121 ?_
    refine lv_iconst (v := 1) hx hb d_Model_tenths_124 (by decide) ?_
    refine lv_iadd hx hb d_Model_tenths_125 ?_
    refine lv_goto (tgt := 150) hx hb d_Model_tenths_126 (by decide) ?_
    exact q_Model_tenths_150 K _ _ _ _ _ _ _ _ _ _  hw (lv_sub hl [3, 5, 6, 2, 1, 0] rfl) hF
noncomputable def F_Model_tenths_28 (s0 : St) (v1 : Int32) (v2 : Int32) (v3 : Int32) (t0 : Int32) : Option St := (ob1 (F_Model_lateOf s0 v2) (fun r_4 => (if (r_4 + (s0.1 0 38)) ≤ v3 then (if inB v2 6 = true then (F_Model_tenths_58 s0 v1 v2 v3 t0 (F_Model_hardIn (s0.1 5 v2.toNatClampNeg) v3)) else none) else (F_Model_tenths_58 s0 v1 v2 v3 t0 (0 : Int32)))))
set_option maxHeartbeats 4000000 in
set_option maxRecDepth 100000 in
theorem q_Model_tenths_28 (K : Fx p s m args meth c b_Model_tenths 10 R_Model none)  : ∀ (H : Heap) (locs : List Loc) (ls : Array Slot) (s0 : St) (v1 : Int32) (v2 : Int32) (v3 : Int32) (t0 : Int32), Wh D cA ad shM A s s0 H locs → lv_has ls 10 [(0, .ref (ad 0)), (1, .int v1), (2, .int v2), (3, .int v3)] → F_Model_tenths_28 s0 v1 v2 v3 t0 = (some τ) → W p l e rm_Model_tenths s m args below meth c H locs 0 0 (MQ below (QcV D cA ad shM A τ) args s 0 0 A) (F0 m 28 ls [.int t0]) := by
  have hx := K.1.1; have hb := K.1.2.1
  intro H locs ls s0 v1 v2 v3 t0 hw hl hF
  unfold F_Model_tenths_28 at hF
  refine lv_istore (lv' := [(4, .int t0), (0, .ref (ad 0)), (1, .int v1), (2, .int v2), (3, .int v3)]) hx hb d_Model_tenths_28 hl (by decide) rfl (fun ls hl => ?_)
  refine lv_iload_n hx hb d_Model_tenths_30 rfl (lv_at hl 4 rfl) ?_
  refine lv_aload_n hx hb d_Model_tenths_31 rfl (lv_at hl 1 rfl) ?_
  refine lv_iload_n hx hb d_Model_tenths_32 rfl (lv_at hl 3 rfl) ?_
  obtain ⟨r_4, h_r_4, hF⟩ := ob1E hF
  refine r_callVI (As := [.int v2]) (rest := [.int v3]) K hw hl.1 (c_Model_lateOf (l := l) (D := D) (cA := cA) (ad := ad) (s0 := s0)   h_r_4) sh_Model rfl (tb_gV w_1214 w_1216 w_42 w_80 w_1217) a_Model_lateOf ⟨rfl, rfl, Nat.le_of_ble_eq_true rfl, Nat.le_of_ble_eq_true rfl⟩ rfl rfl (Nat.le_of_ble_eq_true rfl) d_Model_tenths_33 (fun H locs hw => ?_)
  refine lv_aload_n hx hb d_Model_tenths_36 rfl (lv_at hl 1 rfl) ?_
  refine r_get (v := .int (s0.1 0 38)) K hw i_Model sh_Model rfl 38 (by decide) w_1063 rfl rfl rfl d_Model_tenths_37 ?_
  refine lv_iadd hx hb d_Model_tenths_40 ?_
  refine lv_icmp_ge (tgt := 48) hx hb d_Model_tenths_41 (by decide) (fun c_5 => ?_) (fun c_5 => ?_)
  · replace hF := ifT hF c_5
    refine lv_aload_n hx hb d_Model_tenths_48 rfl (lv_at hl 1 rfl) ?_
    refine r_get (v := .ref (ad 5)) K hw i_Model sh_Model rfl 5 (by decide) w_1030 rfl rfl rfl d_Model_tenths_49 ?_
    refine lv_iload_n hx hb d_Model_tenths_52 rfl (lv_at hl 3 rfl) ?_
    obtain ⟨g_6, hF⟩ := ifG hF
    refine r_iald (k := v2.toNatClampNeg) K hw (show shM[5]? = some (.inr (.inl 6)) from rfl) rfl (inB_vp g_6) d_Model_tenths_53 ?_
    refine lv_iload_n hx hb d_Model_tenths_54 rfl (lv_at hl 4 rfl) ?_
    refine r_callSI (As := [.int (s0.1 5 v2.toNatClampNeg), .int v3]) (rest := []) K hw hl.1 (c_Model_hardIn (l := l) (D := D) (cA := cA) (ad := ad) (s0 := s0)   rfl) (tb_gS w_1242 w_1243 w_80 w_1244) a_Model_hardIn ⟨rfl, rfl, Nat.le_of_ble_eq_true rfl, Nat.le_of_ble_eq_true rfl⟩ rfl rfl (Nat.le_of_ble_eq_true rfl) d_Model_tenths_55 (fun H locs hw => ?_)
    exact q_Model_tenths_58 K _ _ _ _ _ _ _ _ _  hw (lv_sub hl [1, 2, 3, 4, 0] rfl) hF
  · replace hF := ifF hF c_5
    refine lv_iconst (v := 0) hx hb d_Model_tenths_44 (by decide) ?_
    refine lv_goto (tgt := 58) hx hb d_Model_tenths_45 (by decide) ?_
    exact q_Model_tenths_58 K _ _ _ _ _ _ _ _ _  hw (lv_sub hl [1, 2, 3, 4, 0] rfl) hF
noncomputable def F_Model_tenths_0 (s0 : St) (v1 : Int32) (v2 : Int32) (v3 : Int32) : Option St := (ob1 (F_Model_lateOf s0 v1) (fun r_1 => (if (r_1 + (s0.1 0 37)) ≤ v3 then (if inB v1 6 = true then (F_Model_tenths_28 s0 v1 v2 v3 (F_Model_hardIn (s0.1 5 v1.toNatClampNeg) v3)) else none) else (F_Model_tenths_28 s0 v1 v2 v3 (0 : Int32)))))
set_option maxHeartbeats 4000000 in
set_option maxRecDepth 100000 in
theorem q_Model_tenths_0 (K : Fx p s m args meth c b_Model_tenths 10 R_Model none)  : ∀ (H : Heap) (locs : List Loc) (ls : Array Slot) (s0 : St) (v1 : Int32) (v2 : Int32) (v3 : Int32), Wh D cA ad shM A s s0 H locs → lv_has ls 10 [(0, .ref (ad 0)), (1, .int v1), (2, .int v2), (3, .int v3)] → F_Model_tenths_0 s0 v1 v2 v3 = (some τ) → W p l e rm_Model_tenths s m args below meth c H locs 0 0 (MQ below (QcV D cA ad shM A τ) args s 0 0 A) (F0 m 0 ls []) := by
  have hx := K.1.1; have hb := K.1.2.1
  intro H locs ls s0 v1 v2 v3 hw hl hF
  unfold F_Model_tenths_0 at hF
  refine lv_iload_n hx hb d_Model_tenths_0 rfl (lv_at hl 3 rfl) ?_
  refine lv_aload_n hx hb d_Model_tenths_1 rfl (lv_at hl 0 rfl) ?_
  refine lv_iload_n hx hb d_Model_tenths_2 rfl (lv_at hl 1 rfl) ?_
  obtain ⟨r_1, h_r_1, hF⟩ := ob1E hF
  refine r_callVI (As := [.int v1]) (rest := [.int v3]) K hw hl.1 (c_Model_lateOf (l := l) (D := D) (cA := cA) (ad := ad) (s0 := s0)   h_r_1) sh_Model rfl (tb_gV w_1214 w_1216 w_42 w_80 w_1217) a_Model_lateOf ⟨rfl, rfl, Nat.le_of_ble_eq_true rfl, Nat.le_of_ble_eq_true rfl⟩ rfl rfl (Nat.le_of_ble_eq_true rfl) d_Model_tenths_3 (fun H locs hw => ?_)
  refine lv_aload_n hx hb d_Model_tenths_6 rfl (lv_at hl 0 rfl) ?_
  refine r_get (v := .int (s0.1 0 37)) K hw i_Model sh_Model rfl 37 (by decide) w_1062 rfl rfl rfl d_Model_tenths_7 ?_
  refine lv_iadd hx hb d_Model_tenths_10 ?_
  refine lv_icmp_ge (tgt := 18) hx hb d_Model_tenths_11 (by decide) (fun c_2 => ?_) (fun c_2 => ?_)
  · replace hF := ifT hF c_2
    refine lv_aload_n hx hb d_Model_tenths_18 rfl (lv_at hl 0 rfl) ?_
    refine r_get (v := .ref (ad 5)) K hw i_Model sh_Model rfl 5 (by decide) w_1030 rfl rfl rfl d_Model_tenths_19 ?_
    refine lv_iload_n hx hb d_Model_tenths_22 rfl (lv_at hl 1 rfl) ?_
    obtain ⟨g_3, hF⟩ := ifG hF
    refine r_iald (k := v1.toNatClampNeg) K hw (show shM[5]? = some (.inr (.inl 6)) from rfl) rfl (inB_vp g_3) d_Model_tenths_23 ?_
    refine lv_iload_n hx hb d_Model_tenths_24 rfl (lv_at hl 3 rfl) ?_
    refine r_callSI (As := [.int (s0.1 5 v1.toNatClampNeg), .int v3]) (rest := []) K hw hl.1 (c_Model_hardIn (l := l) (D := D) (cA := cA) (ad := ad) (s0 := s0)   rfl) (tb_gS w_1242 w_1243 w_80 w_1244) a_Model_hardIn ⟨rfl, rfl, Nat.le_of_ble_eq_true rfl, Nat.le_of_ble_eq_true rfl⟩ rfl rfl (Nat.le_of_ble_eq_true rfl) d_Model_tenths_25 (fun H locs hw => ?_)
    exact q_Model_tenths_28 K _ _ _ _ _ _ _ _  hw (lv_sub hl [0, 1, 2, 3] rfl) hF
  · replace hF := ifF hF c_2
    refine lv_iconst (v := 0) hx hb d_Model_tenths_14 (by decide) ?_
    refine lv_goto (tgt := 28) hx hb d_Model_tenths_15 (by decide) ?_
    exact q_Model_tenths_28 K _ _ _ _ _ _ _ _  hw (lv_sub hl [0, 1, 2, 3] rfl) hF
end S_Model_tenths
noncomputable abbrev F_Model_tenths := F_Model_tenths_0
theorem c_Model_tenths {l : Launch} {D : va_G} {cA : Nat → ClassId} {ad : Nat → Nat} {s0 τ : St} {v1 : Int32} {v2 : Int32} {v3 : Int32}  (hF : F_Model_tenths s0 v1 v2 v3 = (some τ)) : MV l D cA ad shM y_Model_tenths (wT y_Model_tenths b_Model_tenths 10 none) rm_Model_tenths [.ref (ad 0), .int v1, .int v2, .int v3] s0 τ := fun sz => m_start (Qc := fun A => QcV D cA ad shM A τ) (by decide +kernel) w_1241 (Nat.le_of_ble_eq_true rfl) (fun p e s m below meth c ls K hl hw => q_Model_tenths_0 K _ _ _ _ _ _ _  hw hl hF)

/-! Model.goesOn(III)V -/
abbrev b_Model_goesOn : ByteArray := prog_13_method_36_code
def y_Model_goesOn : MethodName := ⟨R_Model, "goesOn", "(III)V"⟩
theorem a_Model_goesOn : y_Model_goesOn.cls = R_Model ∧ y_Model_goesOn.cls ≠ "java/lang/invoke/MethodHandle" ∧ y_Model_goesOn.cls ≠ "java/lang/invoke/VarHandle" ∧ (parseMethodDescriptor y_Model_goesOn.desc).map (fun d => d.parameters.length) = some 3 := by decide +kernel
abbrev rm_Model_goesOn : Room := { frames := 5, cells := 0, slots := 0, locals := 130 }
theorem w_1061 : Cond.fieldLink R_Model 203 R_Model "gone" "I" ∈ TB := tb_in 1061 (by decide +kernel) (by decide +kernel)
theorem w_1238 : Cond.methodLink R_Model 206 y_Model_tenths ∈ TB := tb_in 1238 (by decide +kernel) (by decide +kernel)
theorem w_1240 : Cond.instanceMethod y_Model_tenths ∈ TB := tb_in 1240 (by decide +kernel) (by decide +kernel)
theorem w_47 : Cond.selects R_Model y_Model_tenths y_Model_tenths ∈ TB := tb_in 47 (by decide +kernel) (by decide +kernel)
theorem w_1237 : Cond.code y_Model_goesOn b_Model_goesOn 4 none ∈ TB := tb_in 1237 (by decide +kernel) (by decide +kernel)
theorem d_Model_goesOn_0 : decode b_Model_goesOn 0 = .ok (.aload_n 0, 1) := by decide +kernel
theorem d_Model_goesOn_1 : decode b_Model_goesOn 1 = .ok (.getfield 203, 3) := by decide +kernel
theorem d_Model_goesOn_4 : decode b_Model_goesOn 4 = .ok (.iload_n 3, 1) := by decide +kernel
theorem d_Model_goesOn_5 : decode b_Model_goesOn 5 = .ok (.if_icmp .ge 40, 3) := by decide +kernel
theorem d_Model_goesOn_8 : decode b_Model_goesOn 8 = .ok (.aload_n 0, 1) := by decide +kernel
theorem d_Model_goesOn_9 : decode b_Model_goesOn 9 = .ok (.getfield 187, 3) := by decide +kernel
theorem d_Model_goesOn_12 : decode b_Model_goesOn 12 = .ok (.bipush (-29), 2) := by decide +kernel
theorem d_Model_goesOn_14 : decode b_Model_goesOn 14 = .ok (.bipush 29, 2) := by decide +kernel
theorem d_Model_goesOn_16 : decode b_Model_goesOn 16 = .ok (.invokestatic 78, 3) := by decide +kernel
theorem d_Model_goesOn_19 : decode b_Model_goesOn 19 = .ok (.ifCond .eq 26, 3) := by decide +kernel
theorem d_Model_goesOn_22 : decode b_Model_goesOn 22 = .ok (.aload_n 0, 1) := by decide +kernel
theorem d_Model_goesOn_23 : decode b_Model_goesOn 23 = .ok (.iload_n 1, 1) := by decide +kernel
theorem d_Model_goesOn_24 : decode b_Model_goesOn 24 = .ok (.iload_n 2, 1) := by decide +kernel
theorem d_Model_goesOn_25 : decode b_Model_goesOn 25 = .ok (.aload_n 0, 1) := by decide +kernel
theorem d_Model_goesOn_26 : decode b_Model_goesOn 26 = .ok (.getfield 203, 3) := by decide +kernel
theorem d_Model_goesOn_29 : decode b_Model_goesOn 29 = .ok (.invokevirtual 206, 3) := by decide +kernel
theorem d_Model_goesOn_32 : decode b_Model_goesOn 32 = .ok (.aload_n 0, 1) := by decide +kernel
theorem d_Model_goesOn_33 : decode b_Model_goesOn 33 = .ok (.dup, 1) := by decide +kernel
theorem d_Model_goesOn_34 : decode b_Model_goesOn 34 = .ok (.getfield 203, 3) := by decide +kernel
theorem d_Model_goesOn_37 : decode b_Model_goesOn 37 = .ok (.iconst 1, 1) := by decide +kernel
theorem d_Model_goesOn_38 : decode b_Model_goesOn 38 = .ok (.iadd, 1) := by decide +kernel
theorem d_Model_goesOn_39 : decode b_Model_goesOn 39 = .ok (.putfield 203, 3) := by decide +kernel
theorem d_Model_goesOn_42 : decode b_Model_goesOn 42 = .ok (.goto (-42), 3) := by decide +kernel
theorem d_Model_goesOn_45 : decode b_Model_goesOn 45 = .ok (.return_, 1) := by decide +kernel
section S_Model_goesOn
variable {p : Program} {l : Launch} {e : Env} {s : State} {m : MethodId} {args : Array Value} {below : List Frame} {meth : Method} {c : Code} {D : va_G} {cA : Nat → ClassId} {ad : Nat → Nat} {nC : Nat} {A : Nat → Prop} {τ : St}
noncomputable def F_Model_goesOn_0 : Nat → St → Int32 → Int32 → Int32 → Option St
  | 0, _, _, _, _ => none
  | n + 1, s0, v1, v2, v3 => (if v3 ≤ (s0.1 0 36) then (some s0) else (if (F_Model_in (s0.1 0 32) (-29 : Int32) (29 : Int32)) = 0 then (some s0) else (ob1 (F_Model_tenths s0 v1 v2 (s0.1 0 36)) (fun s_3 => (lt (up1 s_3 0 36 ((s_3.1 0 36) + (1 : Int32))) (fun s_4 => (F_Model_goesOn_0 n s_4 v1 v2 v3)))))))
set_option maxHeartbeats 4000000 in
set_option maxRecDepth 100000 in
theorem q_Model_goesOn_0 (K : Fx p s m args meth c b_Model_goesOn 4 R_Model none)  : ∀ (n : Nat), ∀ (H : Heap) (locs : List Loc) (ls : Array Slot) (s0 : St) (v1 : Int32) (v2 : Int32) (v3 : Int32), Wh D cA ad shM A s s0 H locs → lv_has ls 4 [(0, .ref (ad 0)), (1, .int v1), (2, .int v2), (3, .int v3)] → F_Model_goesOn_0 n s0 v1 v2 v3 = (some τ) → W p l e rm_Model_goesOn s m args below meth c H locs 0 0 (MQ below (QcV D cA ad shM A τ) args s 0 0 A) (F0 m 0 ls []) := by
  have hx := K.1.1; have hb := K.1.2.1
  intro n
  induction n with
  | zero =>
    intro H locs ls s0 v1 v2 v3 hw hl hF
    exact absurd hF (by rw [F_Model_goesOn_0]; exact nofun)
  | succ n ih =>
    intro H locs ls s0 v1 v2 v3 hw hl hF
    rw [F_Model_goesOn_0] at hF
    refine lv_aload_n hx hb d_Model_goesOn_0 rfl (lv_at hl 0 rfl) ?_
    refine r_get (v := .int (s0.1 0 36)) K hw i_Model sh_Model rfl 36 (by decide) w_1061 rfl rfl rfl d_Model_goesOn_1 ?_
    refine lv_iload_n hx hb d_Model_goesOn_4 rfl (lv_at hl 3 rfl) ?_
    refine lv_icmp_ge (tgt := 45) hx hb d_Model_goesOn_5 (by decide) (fun c_1 => ?_) (fun c_1 => ?_)
    · replace hF := ifT hF c_1
      replace hF := sE1 hF
      subst hF
      exact r_vret K hw d_Model_goesOn_45
    · replace hF := ifF hF c_1
      refine lv_aload_n hx hb d_Model_goesOn_8 rfl (lv_at hl 0 rfl) ?_
      refine r_get (v := .int (s0.1 0 32)) K hw i_Model sh_Model rfl 32 (by decide) w_1057 rfl rfl rfl d_Model_goesOn_9 ?_
      refine lv_bipush (v := -29) hx hb d_Model_goesOn_12 (by decide) ?_
      refine lv_bipush (v := 29) hx hb d_Model_goesOn_14 (by decide) ?_
      refine r_callSI (As := [.int (s0.1 0 32), .int (-29 : Int32), .int (29 : Int32)]) (rest := []) K hw hl.1 (c_Model_in (l := l) (D := D) (cA := cA) (ad := ad) (s0 := s0)   rfl) (tb_gS w_986 w_987 w_80 w_988) a_Model_in ⟨rfl, rfl, Nat.le_of_ble_eq_true rfl, Nat.le_of_ble_eq_true rfl⟩ rfl rfl (Nat.le_of_ble_eq_true rfl) d_Model_goesOn_16 (fun H locs hw => ?_)
      refine lv_if_eq (tgt := 45) hx hb d_Model_goesOn_19 (by decide) (fun c_2 => ?_) (fun c_2 => ?_)
      · replace hF := ifT hF c_2
        replace hF := sE1 hF
        subst hF
        exact r_vret K hw d_Model_goesOn_45
      · replace hF := ifF hF c_2
        refine lv_aload_n hx hb d_Model_goesOn_22 rfl (lv_at hl 0 rfl) ?_
        refine lv_iload_n hx hb d_Model_goesOn_23 rfl (lv_at hl 1 rfl) ?_
        refine lv_iload_n hx hb d_Model_goesOn_24 rfl (lv_at hl 2 rfl) ?_
        refine lv_aload_n hx hb d_Model_goesOn_25 rfl (lv_at hl 0 rfl) ?_
        refine r_get (v := .int (s0.1 0 36)) K hw i_Model sh_Model rfl 36 (by decide) w_1061 rfl rfl rfl d_Model_goesOn_26 ?_
        obtain ⟨s_3, h_s_3, hF⟩ := ob1E hF
        refine r_callVV (As := [.int v1, .int v2, .int (s0.1 0 36)]) (rest := []) K hw hl.1 (c_Model_tenths (l := l) (D := D) (cA := cA) (ad := ad) (s0 := s0)   h_s_3) sh_Model rfl (tb_gV w_1238 w_1240 w_47 w_80 w_1241) a_Model_tenths ⟨rfl, rfl, Nat.le_of_ble_eq_true rfl, Nat.le_of_ble_eq_true rfl⟩ rfl rfl (Nat.le_of_ble_eq_true rfl) d_Model_goesOn_29 (fun H locs hw => ?_)
        refine lv_aload_n hx hb d_Model_goesOn_32 rfl (lv_at hl 0 rfl) ?_
        refine lv_dup hx hb d_Model_goesOn_33 rfl ?_
        refine r_get (v := .int (s_3.1 0 36)) K hw i_Model sh_Model rfl 36 (by decide) w_1061 rfl rfl rfl d_Model_goesOn_34 ?_
        refine lv_iconst (v := 1) hx hb d_Model_goesOn_37 (by decide) ?_
        refine lv_iadd hx hb d_Model_goesOn_38 ?_
        refine r_putI K hw i_Model t_Model t_Model_ok n_Model sh_Model rfl 36 (by decide) w_1061 rfl rfl rfl rfl rfl d_Model_goesOn_39 (fun s_4 f_s_4 H locs hw => ?_)
        replace hF := ltN hF f_s_4
        refine lv_goto (tgt := 0) hx hb d_Model_goesOn_42 (by decide) ?_
        exact ih _ _ _ _ _ _ _  hw (lv_sub hl [0, 1, 2, 3] rfl) hF
end S_Model_goesOn
noncomputable abbrev F_Model_goesOn := F_Model_goesOn_0 FU
theorem c_Model_goesOn {l : Launch} {D : va_G} {cA : Nat → ClassId} {ad : Nat → Nat} {s0 τ : St} {v1 : Int32} {v2 : Int32} {v3 : Int32}  (hF : F_Model_goesOn s0 v1 v2 v3 = (some τ)) : MV l D cA ad shM y_Model_goesOn (wT y_Model_goesOn b_Model_goesOn 4 none) rm_Model_goesOn [.ref (ad 0), .int v1, .int v2, .int v3] s0 τ := fun sz => m_start (Qc := fun A => QcV D cA ad shM A τ) (by decide +kernel) w_1237 (Nat.le_of_ble_eq_true rfl) (fun p e s m below meth c ls K hl hw => q_Model_goesOn_0 K FU _ _ _ _ _ _ _  hw hl hF)

/-! Model.begins(III)V -/
abbrev b_Model_begins : ByteArray := prog_13_method_37_code
def y_Model_begins : MethodName := ⟨R_Model, "begins", "(III)V"⟩
theorem a_Model_begins : y_Model_begins.cls = R_Model ∧ y_Model_begins.cls ≠ "java/lang/invoke/MethodHandle" ∧ y_Model_begins.cls ≠ "java/lang/invoke/VarHandle" ∧ (parseMethodDescriptor y_Model_begins.desc).map (fun d => d.parameters.length) = some 3 := by decide +kernel
abbrev rm_Model_begins : Room := { frames := 0, cells := 0, slots := 0, locals := 0 }
theorem w_1233 : Cond.code y_Model_begins b_Model_begins 4 none ∈ TB := tb_in 1233 (by decide +kernel) (by decide +kernel)
theorem d_Model_begins_0 : decode b_Model_begins 0 = .ok (.aload_n 0, 1) := by decide +kernel
theorem d_Model_begins_1 : decode b_Model_begins 1 = .ok (.iload_n 3, 1) := by decide +kernel
theorem d_Model_begins_2 : decode b_Model_begins 2 = .ok (.putfield 187, 3) := by decide +kernel
theorem d_Model_begins_5 : decode b_Model_begins 5 = .ok (.aload_n 0, 1) := by decide +kernel
theorem d_Model_begins_6 : decode b_Model_begins 6 = .ok (.aload_n 0, 1) := by decide +kernel
theorem d_Model_begins_7 : decode b_Model_begins 7 = .ok (.getfield 19, 3) := by decide +kernel
theorem d_Model_begins_10 : decode b_Model_begins 10 = .ok (.iload_n 1, 1) := by decide +kernel
theorem d_Model_begins_11 : decode b_Model_begins 11 = .ok (.iaload, 1) := by decide +kernel
theorem d_Model_begins_12 : decode b_Model_begins 12 = .ok (.putfield 184, 3) := by decide +kernel
theorem d_Model_begins_15 : decode b_Model_begins 15 = .ok (.aload_n 0, 1) := by decide +kernel
theorem d_Model_begins_16 : decode b_Model_begins 16 = .ok (.aload_n 0, 1) := by decide +kernel
theorem d_Model_begins_17 : decode b_Model_begins 17 = .ok (.getfield 19, 3) := by decide +kernel
theorem d_Model_begins_20 : decode b_Model_begins 20 = .ok (.iload_n 2, 1) := by decide +kernel
theorem d_Model_begins_21 : decode b_Model_begins 21 = .ok (.iaload, 1) := by decide +kernel
theorem d_Model_begins_22 : decode b_Model_begins 22 = .ok (.putfield 194, 3) := by decide +kernel
theorem d_Model_begins_25 : decode b_Model_begins 25 = .ok (.aload_n 0, 1) := by decide +kernel
theorem d_Model_begins_26 : decode b_Model_begins 26 = .ok (.iconst 0, 1) := by decide +kernel
theorem d_Model_begins_27 : decode b_Model_begins 27 = .ok (.putfield 200, 3) := by decide +kernel
theorem d_Model_begins_30 : decode b_Model_begins 30 = .ok (.aload_n 0, 1) := by decide +kernel
theorem d_Model_begins_31 : decode b_Model_begins 31 = .ok (.iconst 0, 1) := by decide +kernel
theorem d_Model_begins_32 : decode b_Model_begins 32 = .ok (.putfield 203, 3) := by decide +kernel
theorem d_Model_begins_35 : decode b_Model_begins 35 = .ok (.return_, 1) := by decide +kernel
section S_Model_begins
variable {p : Program} {l : Launch} {e : Env} {s : State} {m : MethodId} {args : Array Value} {below : List Frame} {meth : Method} {c : Code} {D : va_G} {cA : Nat → ClassId} {ad : Nat → Nat} {nC : Nat} {A : Nat → Prop} {τ : St}
noncomputable def F_Model_begins_0 (s0 : St) (v1 : Int32) (v2 : Int32) (v3 : Int32) : Option St := (lt (up1 s0 0 32 v3) (fun s_1 => (if inB v1 6 = true then (lt (up1 s_1 0 33 (s_1.1 4 v1.toNatClampNeg)) (fun s_3 => (if inB v2 6 = true then (lt (up1 s_3 0 34 (s_3.1 4 v2.toNatClampNeg)) (fun s_5 => (lt (up1 s_5 0 35 (0 : Int32)) (fun s_6 => (lt (up1 s_6 0 36 (0 : Int32)) (fun s_7 => (some s_7))))))) else none))) else none)))
set_option maxHeartbeats 4000000 in
set_option maxRecDepth 100000 in
theorem q_Model_begins_0 (K : Fx p s m args meth c b_Model_begins 4 R_Model none)  : ∀ (H : Heap) (locs : List Loc) (ls : Array Slot) (s0 : St) (v1 : Int32) (v2 : Int32) (v3 : Int32), Wh D cA ad shM A s s0 H locs → lv_has ls 4 [(0, .ref (ad 0)), (1, .int v1), (2, .int v2), (3, .int v3)] → F_Model_begins_0 s0 v1 v2 v3 = (some τ) → W p l e rm_Model_begins s m args below meth c H locs 0 0 (MQ below (QcV D cA ad shM A τ) args s 0 0 A) (F0 m 0 ls []) := by
  have hx := K.1.1; have hb := K.1.2.1
  intro H locs ls s0 v1 v2 v3 hw hl hF
  unfold F_Model_begins_0 at hF
  refine lv_aload_n hx hb d_Model_begins_0 rfl (lv_at hl 0 rfl) ?_
  refine lv_iload_n hx hb d_Model_begins_1 rfl (lv_at hl 3 rfl) ?_
  refine r_putI K hw i_Model t_Model t_Model_ok n_Model sh_Model rfl 32 (by decide) w_1057 rfl rfl rfl rfl rfl d_Model_begins_2 (fun s_1 f_s_1 H locs hw => ?_)
  replace hF := ltN hF f_s_1
  refine lv_aload_n hx hb d_Model_begins_5 rfl (lv_at hl 0 rfl) ?_
  refine lv_aload_n hx hb d_Model_begins_6 rfl (lv_at hl 0 rfl) ?_
  refine r_get (v := .ref (ad 4)) K hw i_Model sh_Model rfl 4 (by decide) w_1029 rfl rfl rfl d_Model_begins_7 ?_
  refine lv_iload_n hx hb d_Model_begins_10 rfl (lv_at hl 1 rfl) ?_
  obtain ⟨g_2, hF⟩ := ifG hF
  refine r_iald (k := v1.toNatClampNeg) K hw (show shM[4]? = some (.inr (.inl 6)) from rfl) rfl (inB_vp g_2) d_Model_begins_11 ?_
  refine r_putI K hw i_Model t_Model t_Model_ok n_Model sh_Model rfl 33 (by decide) w_1058 rfl rfl rfl rfl rfl d_Model_begins_12 (fun s_3 f_s_3 H locs hw => ?_)
  replace hF := ltN hF f_s_3
  refine lv_aload_n hx hb d_Model_begins_15 rfl (lv_at hl 0 rfl) ?_
  refine lv_aload_n hx hb d_Model_begins_16 rfl (lv_at hl 0 rfl) ?_
  refine r_get (v := .ref (ad 4)) K hw i_Model sh_Model rfl 4 (by decide) w_1029 rfl rfl rfl d_Model_begins_17 ?_
  refine lv_iload_n hx hb d_Model_begins_20 rfl (lv_at hl 2 rfl) ?_
  obtain ⟨g_4, hF⟩ := ifG hF
  refine r_iald (k := v2.toNatClampNeg) K hw (show shM[4]? = some (.inr (.inl 6)) from rfl) rfl (inB_vp g_4) d_Model_begins_21 ?_
  refine r_putI K hw i_Model t_Model t_Model_ok n_Model sh_Model rfl 34 (by decide) w_1059 rfl rfl rfl rfl rfl d_Model_begins_22 (fun s_5 f_s_5 H locs hw => ?_)
  replace hF := ltN hF f_s_5
  refine lv_aload_n hx hb d_Model_begins_25 rfl (lv_at hl 0 rfl) ?_
  refine lv_iconst (v := 0) hx hb d_Model_begins_26 (by decide) ?_
  refine r_putI K hw i_Model t_Model t_Model_ok n_Model sh_Model rfl 35 (by decide) w_1060 rfl rfl rfl rfl rfl d_Model_begins_27 (fun s_6 f_s_6 H locs hw => ?_)
  replace hF := ltN hF f_s_6
  refine lv_aload_n hx hb d_Model_begins_30 rfl (lv_at hl 0 rfl) ?_
  refine lv_iconst (v := 0) hx hb d_Model_begins_31 (by decide) ?_
  refine r_putI K hw i_Model t_Model t_Model_ok n_Model sh_Model rfl 36 (by decide) w_1061 rfl rfl rfl rfl rfl d_Model_begins_32 (fun s_7 f_s_7 H locs hw => ?_)
  replace hF := ltN hF f_s_7
  replace hF := sE1 hF
  subst hF
  exact r_vret K hw d_Model_begins_35
end S_Model_begins
noncomputable abbrev F_Model_begins := F_Model_begins_0
theorem c_Model_begins {l : Launch} {D : va_G} {cA : Nat → ClassId} {ad : Nat → Nat} {s0 τ : St} {v1 : Int32} {v2 : Int32} {v3 : Int32}  (hF : F_Model_begins s0 v1 v2 v3 = (some τ)) : MV l D cA ad shM y_Model_begins (wT y_Model_begins b_Model_begins 4 none) rm_Model_begins [.ref (ad 0), .int v1, .int v2, .int v3] s0 τ := fun sz => m_start (Qc := fun A => QcV D cA ad shM A τ) (by decide +kernel) w_1233 (Nat.le_of_ble_eq_true rfl) (fun p e s m below meth c ls K hl hw => q_Model_begins_0 K _ _ _ _ _ _ _  hw hl hF)

/-! Model.bouts(II)V -/
abbrev b_Model_bouts : ByteArray := prog_13_method_38_code
def y_Model_bouts : MethodName := ⟨R_Model, "bouts", "(II)V"⟩
theorem a_Model_bouts : y_Model_bouts.cls = R_Model ∧ y_Model_bouts.cls ≠ "java/lang/invoke/MethodHandle" ∧ y_Model_bouts.cls ≠ "java/lang/invoke/VarHandle" ∧ (parseMethodDescriptor y_Model_bouts.desc).map (fun d => d.parameters.length) = some 2 := by decide +kernel
abbrev rm_Model_bouts : Room := { frames := 6, cells := 0, slots := 0, locals := 153 }
theorem w_1230 : Cond.methodLink R_Model 210 y_Model_begins ∈ TB := tb_in 1230 (by decide +kernel) (by decide +kernel)
theorem w_1232 : Cond.instanceMethod y_Model_begins ∈ TB := tb_in 1232 (by decide +kernel) (by decide +kernel)
theorem w_45 : Cond.selects R_Model y_Model_begins y_Model_begins ∈ TB := tb_in 45 (by decide +kernel) (by decide +kernel)
theorem w_1234 : Cond.methodLink R_Model 213 y_Model_goesOn ∈ TB := tb_in 1234 (by decide +kernel) (by decide +kernel)
theorem w_1236 : Cond.instanceMethod y_Model_goesOn ∈ TB := tb_in 1236 (by decide +kernel) (by decide +kernel)
theorem w_46 : Cond.selects R_Model y_Model_goesOn y_Model_goesOn ∈ TB := tb_in 46 (by decide +kernel) (by decide +kernel)
theorem w_1260 : Cond.code y_Model_bouts b_Model_bouts 3 none ∈ TB := tb_in 1260 (by decide +kernel) (by decide +kernel)
theorem d_Model_bouts_0 : decode b_Model_bouts 0 = .ok (.aload_n 0, 1) := by decide +kernel
theorem d_Model_bouts_1 : decode b_Model_bouts 1 = .ok (.iload_n 1, 1) := by decide +kernel
theorem d_Model_bouts_2 : decode b_Model_bouts 2 = .ok (.iload_n 2, 1) := by decide +kernel
theorem d_Model_bouts_3 : decode b_Model_bouts 3 = .ok (.iconst 0, 1) := by decide +kernel
theorem d_Model_bouts_4 : decode b_Model_bouts 4 = .ok (.invokevirtual 210, 3) := by decide +kernel
theorem d_Model_bouts_7 : decode b_Model_bouts 7 = .ok (.aload_n 0, 1) := by decide +kernel
theorem d_Model_bouts_8 : decode b_Model_bouts 8 = .ok (.iload_n 1, 1) := by decide +kernel
theorem d_Model_bouts_9 : decode b_Model_bouts 9 = .ok (.iload_n 2, 1) := by decide +kernel
theorem d_Model_bouts_10 : decode b_Model_bouts 10 = .ok (.bipush 40, 2) := by decide +kernel
theorem d_Model_bouts_12 : decode b_Model_bouts 12 = .ok (.invokevirtual 213, 3) := by decide +kernel
theorem d_Model_bouts_15 : decode b_Model_bouts 15 = .ok (.return_, 1) := by decide +kernel
section S_Model_bouts
variable {p : Program} {l : Launch} {e : Env} {s : State} {m : MethodId} {args : Array Value} {below : List Frame} {meth : Method} {c : Code} {D : va_G} {cA : Nat → ClassId} {ad : Nat → Nat} {nC : Nat} {A : Nat → Prop} {τ : St}
noncomputable def F_Model_bouts_0 (s0 : St) (v1 : Int32) (v2 : Int32) : Option St := (ob1 (F_Model_begins s0 v1 v2 (0 : Int32)) (fun s_1 => (ob1 (F_Model_goesOn s_1 v1 v2 (40 : Int32)) (fun s_2 => (some s_2)))))
set_option maxHeartbeats 4000000 in
set_option maxRecDepth 100000 in
theorem q_Model_bouts_0 (K : Fx p s m args meth c b_Model_bouts 3 R_Model none)  : ∀ (H : Heap) (locs : List Loc) (ls : Array Slot) (s0 : St) (v1 : Int32) (v2 : Int32), Wh D cA ad shM A s s0 H locs → lv_has ls 3 [(0, .ref (ad 0)), (1, .int v1), (2, .int v2)] → F_Model_bouts_0 s0 v1 v2 = (some τ) → W p l e rm_Model_bouts s m args below meth c H locs 0 0 (MQ below (QcV D cA ad shM A τ) args s 0 0 A) (F0 m 0 ls []) := by
  have hx := K.1.1; have hb := K.1.2.1
  intro H locs ls s0 v1 v2 hw hl hF
  unfold F_Model_bouts_0 at hF
  refine lv_aload_n hx hb d_Model_bouts_0 rfl (lv_at hl 0 rfl) ?_
  refine lv_iload_n hx hb d_Model_bouts_1 rfl (lv_at hl 1 rfl) ?_
  refine lv_iload_n hx hb d_Model_bouts_2 rfl (lv_at hl 2 rfl) ?_
  refine lv_iconst (v := 0) hx hb d_Model_bouts_3 (by decide) ?_
  obtain ⟨s_1, h_s_1, hF⟩ := ob1E hF
  refine r_callVV (As := [.int v1, .int v2, .int (0 : Int32)]) (rest := []) K hw hl.1 (c_Model_begins (l := l) (D := D) (cA := cA) (ad := ad) (s0 := s0)   h_s_1) sh_Model rfl (tb_gV w_1230 w_1232 w_45 w_80 w_1233) a_Model_begins ⟨rfl, rfl, Nat.le_of_ble_eq_true rfl, Nat.le_of_ble_eq_true rfl⟩ rfl rfl (Nat.le_of_ble_eq_true rfl) d_Model_bouts_4 (fun H locs hw => ?_)
  refine lv_aload_n hx hb d_Model_bouts_7 rfl (lv_at hl 0 rfl) ?_
  refine lv_iload_n hx hb d_Model_bouts_8 rfl (lv_at hl 1 rfl) ?_
  refine lv_iload_n hx hb d_Model_bouts_9 rfl (lv_at hl 2 rfl) ?_
  refine lv_bipush (v := 40) hx hb d_Model_bouts_10 (by decide) ?_
  obtain ⟨s_2, h_s_2, hF⟩ := ob1E hF
  refine r_callVV (As := [.int v1, .int v2, .int (40 : Int32)]) (rest := []) K hw hl.1 (c_Model_goesOn (l := l) (D := D) (cA := cA) (ad := ad) (s0 := s_1)   h_s_2) sh_Model rfl (tb_gV w_1234 w_1236 w_46 w_80 w_1237) a_Model_goesOn ⟨rfl, rfl, Nat.le_of_ble_eq_true rfl, Nat.le_of_ble_eq_true rfl⟩ rfl rfl (Nat.le_of_ble_eq_true rfl) d_Model_bouts_12 (fun H locs hw => ?_)
  replace hF := sE1 hF
  subst hF
  exact r_vret K hw d_Model_bouts_15
end S_Model_bouts
noncomputable abbrev F_Model_bouts := F_Model_bouts_0
theorem c_Model_bouts {l : Launch} {D : va_G} {cA : Nat → ClassId} {ad : Nat → Nat} {s0 τ : St} {v1 : Int32} {v2 : Int32}  (hF : F_Model_bouts s0 v1 v2 = (some τ)) : MV l D cA ad shM y_Model_bouts (wT y_Model_bouts b_Model_bouts 3 none) rm_Model_bouts [.ref (ad 0), .int v1, .int v2] s0 τ := fun sz => m_start (Qc := fun A => QcV D cA ad shM A τ) (by decide +kernel) w_1260 (Nat.le_of_ble_eq_true rfl) (fun p e s m below meth c ls K hl hw => q_Model_bouts_0 K _ _ _ _ _ _  hw hl hF)

/-! Model.winsBy(II)Z -/
abbrev b_Model_winsBy : ByteArray := prog_13_method_39_code
def y_Model_winsBy : MethodName := ⟨R_Model, "winsBy", "(II)Z"⟩
theorem a_Model_winsBy : y_Model_winsBy.cls = R_Model ∧ y_Model_winsBy.cls ≠ "java/lang/invoke/MethodHandle" ∧ y_Model_winsBy.cls ≠ "java/lang/invoke/VarHandle" ∧ (parseMethodDescriptor y_Model_winsBy.desc).map (fun d => d.parameters.length) = some 2 := by decide +kernel
abbrev rm_Model_winsBy : Room := { frames := 7, cells := 0, slots := 0, locals := 175 }
theorem w_1257 : Cond.methodLink R_Model 216 y_Model_bouts ∈ TB := tb_in 1257 (by decide +kernel) (by decide +kernel)
theorem w_1259 : Cond.instanceMethod y_Model_bouts ∈ TB := tb_in 1259 (by decide +kernel) (by decide +kernel)
theorem w_50 : Cond.selects R_Model y_Model_bouts y_Model_bouts ∈ TB := tb_in 50 (by decide +kernel) (by decide +kernel)
theorem w_1322 : Cond.code y_Model_winsBy b_Model_winsBy 3 (some .boolean) ∈ TB := tb_in 1322 (by decide +kernel) (by decide +kernel)
theorem d_Model_winsBy_0 : decode b_Model_winsBy 0 = .ok (.aload_n 0, 1) := by decide +kernel
theorem d_Model_winsBy_1 : decode b_Model_winsBy 1 = .ok (.iload_n 1, 1) := by decide +kernel
theorem d_Model_winsBy_2 : decode b_Model_winsBy 2 = .ok (.iload_n 2, 1) := by decide +kernel
theorem d_Model_winsBy_3 : decode b_Model_winsBy 3 = .ok (.invokevirtual 216, 3) := by decide +kernel
theorem d_Model_winsBy_6 : decode b_Model_winsBy 6 = .ok (.aload_n 0, 1) := by decide +kernel
theorem d_Model_winsBy_7 : decode b_Model_winsBy 7 = .ok (.getfield 187, 3) := by decide +kernel
theorem d_Model_winsBy_10 : decode b_Model_winsBy 10 = .ok (.ifCond .le 7, 3) := by decide +kernel
theorem d_Model_winsBy_13 : decode b_Model_winsBy 13 = .ok (.iconst 1, 1) := by decide +kernel
theorem d_Model_winsBy_14 : decode b_Model_winsBy 14 = .ok (.goto 4, 3) := by decide +kernel
theorem d_Model_winsBy_17 : decode b_Model_winsBy 17 = .ok (.iconst 0, 1) := by decide +kernel
theorem d_Model_winsBy_18 : decode b_Model_winsBy 18 = .ok (.ireturn, 1) := by decide +kernel
section S_Model_winsBy
variable {p : Program} {l : Launch} {e : Env} {s : State} {m : MethodId} {args : Array Value} {below : List Frame} {meth : Method} {c : Code} {D : va_G} {cA : Nat → ClassId} {ad : Nat → Nat} {nC : Nat} {A : Nat → Prop} {r : Int32} {τ : St}
noncomputable def F_Model_winsBy_0 (s0 : St) (v1 : Int32) (v2 : Int32) : Option (Int32 × St) := (ob1 (F_Model_bouts s0 v1 v2) (fun s_1 => (if (s_1.1 0 32) ≤ 0 then (some ((0 : Int32), s_1)) else (some ((1 : Int32), s_1)))))
set_option maxHeartbeats 4000000 in
set_option maxRecDepth 100000 in
theorem q_Model_winsBy_0 (K : Fx p s m args meth c b_Model_winsBy 3 R_Model (some .boolean))  : ∀ (H : Heap) (locs : List Loc) (ls : Array Slot) (s0 : St) (v1 : Int32) (v2 : Int32), Wh D cA ad shM A s s0 H locs → lv_has ls 3 [(0, .ref (ad 0)), (1, .int v1), (2, .int v2)] → F_Model_winsBy_0 s0 v1 v2 = (some (r, τ)) → W p l e rm_Model_winsBy s m args below meth c H locs 0 0 (MQ below (QcI D cA ad shM A r τ) args s 0 0 A) (F0 m 0 ls []) := by
  have hx := K.1.1; have hb := K.1.2.1
  intro H locs ls s0 v1 v2 hw hl hF
  unfold F_Model_winsBy_0 at hF
  refine lv_aload_n hx hb d_Model_winsBy_0 rfl (lv_at hl 0 rfl) ?_
  refine lv_iload_n hx hb d_Model_winsBy_1 rfl (lv_at hl 1 rfl) ?_
  refine lv_iload_n hx hb d_Model_winsBy_2 rfl (lv_at hl 2 rfl) ?_
  obtain ⟨s_1, h_s_1, hF⟩ := ob1E hF
  refine r_callVV (As := [.int v1, .int v2]) (rest := []) K hw hl.1 (c_Model_bouts (l := l) (D := D) (cA := cA) (ad := ad) (s0 := s0)   h_s_1) sh_Model rfl (tb_gV w_1257 w_1259 w_50 w_80 w_1260) a_Model_bouts ⟨rfl, rfl, Nat.le_of_ble_eq_true rfl, Nat.le_of_ble_eq_true rfl⟩ rfl rfl (Nat.le_of_ble_eq_true rfl) d_Model_winsBy_3 (fun H locs hw => ?_)
  refine lv_aload_n hx hb d_Model_winsBy_6 rfl (lv_at hl 0 rfl) ?_
  refine r_get (v := .int (s_1.1 0 32)) K hw i_Model sh_Model rfl 32 (by decide) w_1057 rfl rfl rfl d_Model_winsBy_7 ?_
  refine lv_if_le (tgt := 17) hx hb d_Model_winsBy_10 (by decide) (fun c_2 => ?_) (fun c_2 => ?_)
  · replace hF := ifT hF c_2
    refine lv_iconst (v := 0) hx hb d_Model_winsBy_17 (by decide) ?_
    obtain ⟨hF, hG⟩ := sE2 hF
    subst hF
    subst hG
    exact r_zret K hw (by decide) d_Model_winsBy_18
  · replace hF := ifF hF c_2
    refine lv_iconst (v := 1) hx hb d_Model_winsBy_13 (by decide) ?_
    refine lv_goto (tgt := 18) hx hb d_Model_winsBy_14 (by decide) ?_
    obtain ⟨hF, hG⟩ := sE2 hF
    subst hF
    subst hG
    exact r_zret K hw (by decide) d_Model_winsBy_18
end S_Model_winsBy
noncomputable abbrev F_Model_winsBy := F_Model_winsBy_0
theorem c_Model_winsBy {l : Launch} {D : va_G} {cA : Nat → ClassId} {ad : Nat → Nat} {s0 τ : St} {r : Int32} {v1 : Int32} {v2 : Int32}  (hF : F_Model_winsBy s0 v1 v2 = (some (r, τ))) : MI l D cA ad shM y_Model_winsBy (wT y_Model_winsBy b_Model_winsBy 3 (some .boolean)) rm_Model_winsBy [.ref (ad 0), .int v1, .int v2] s0 r τ := fun sz => m_start (Qc := fun A => QcI D cA ad shM A r τ) (by decide +kernel) w_1322 (Nat.le_of_ble_eq_true rfl) (fun p e s m below meth c ls K hl hw => q_Model_winsBy_0 K _ _ _ _ _ _  hw hl hF)
